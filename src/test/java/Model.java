import java.util.ArrayList;
import java.util.Arrays;
import java.util.Collections;
import java.util.HashMap;
import java.util.List;
import java.util.Map;
import java.util.TreeMap;
import java.util.TreeSet;

/**
 * The document once more, written in another way and without regard to speed: faults are found by a
 * machine with a counter of brackets, expressions are taken apart from outside, states are copied whole.
 */
final class Model {
    private static final int UNKNOWN = -1;
    private static final int BAD_VALUE = -2;
    private static final int FULL = -3;
    private static final int NOT_POSSIBLE = -4;
    private static final int NONE = -5;

    private static final class Layer {
        final TreeMap<Integer, Integer> entries = new TreeMap<>();
        boolean on = true;

        Layer copy() {
            Layer copy = new Layer();
            copy.entries.putAll(entries);
            copy.on = on;
            return copy;
        }
    }

    private static final class State {
        final List<List<Layer>> maps = new ArrayList<>();
        int rule = 0;
        List<Map<Integer, Integer>> known = null;
        int hidden = -1;
        TreeSet<Integer> suspects = new TreeSet<>();
        int asked = 0;

        State copy() {
            State copy = new State();
            for (List<Layer> map : maps) {
                List<Layer> layers = new ArrayList<>();
                for (Layer layer : map) {
                    layers.add(layer.copy());
                }
                copy.maps.add(layers);
            }
            copy.rule = rule;
            copy.known = known;
            copy.hidden = hidden;
            copy.suspects = new TreeSet<>(suspects);
            copy.asked = asked;
            return copy;
        }
    }

    private State now = new State();
    private State kept = null;
    private final List<State> history = new ArrayList<>();
    private String text = "";

    Model() {
        for (int map = 0; map < 6; map++) {
            now.maps.add(new ArrayList<>());
        }
    }

    private void record(State before) {
        history.add(before);
        if (history.size() > 4) {
            history.remove(0);
        }
    }

    // ---- values

    private static Map<Integer, Integer> values(List<Layer> layers) {
        Map<Integer, Integer> all = new TreeMap<>();
        for (Layer layer : layers) {
            if (layer.on) {
                all.putAll(layer.entries);
            }
        }
        all.values().removeIf(value -> value == 16);
        return all;
    }

    private Map<Integer, Integer> values(int map) {
        return values(now.maps.get(map));
    }

    private static int changed(Map<Integer, Integer> one, Map<Integer, Integer> other) {
        return Integer.bitCount(difference(one, other));
    }

    private static int difference(Map<Integer, Integer> one, Map<Integer, Integer> other) {
        int keys = 0;
        for (int key = 0; key < 16; key++) {
            if (!one.getOrDefault(key, 16).equals(other.getOrDefault(key, 16))) {
                keys += 1 << key;
            }
        }
        return keys;
    }

    private static int bits(Iterable<Integer> numbers) {
        int all = 0;
        for (int number : numbers) {
            all |= 1 << number;
        }
        return all;
    }

    private static boolean badMap(int map) {
        return map < 0 || map > 5;
    }

    private static boolean badKey(int key) {
        return key < 0 || key > 15;
    }

    private boolean badLayer(int map, int layer) {
        return badMap(map) || layer < 0 || layer >= now.maps.get(map).size();
    }

    // ---- texts

    /** The index of the first character with which no text goes on, the length if it is not whole, or -1. */
    static int layerFault(String text) {
        char state = 'k';
        int first = 0;
        for (int i = 0; i < text.length(); i++) {
            char c = text.charAt(i);
            boolean digit = c >= '0' && c <= '9';
            if ((state == 'k' || state == 'v') && digit) {
                first = c - '0';
                state = state == 'k' ? 'K' : 'V';
            } else if ((state == 'K' || state == 'V') && digit && first == 1 && c <= '5') {
                first = 99;
            } else if (state == 'K' && c == '>') {
                state = 'v';
            } else if (state == 'v' && c == '-') {
                state = 'e';
            } else if ((state == 'V' || state == 'e') && c == ',') {
                state = 'k';
            } else {
                return i;
            }
        }
        return state == 'V' || state == 'e' ? -1 : text.length();
    }

    static int expressionFault(String text) {
        char state = 'm';
        int open = 0;
        int first = 0;
        for (int i = 0; i < text.length(); i++) {
            char c = text.charAt(i);
            boolean digit = c >= '0' && c <= '9';
            boolean letter = c >= 'A' && c <= 'F';
            if (state == 'm' && letter) {
                state = '=';
            } else if (state == '=' && c == '=') {
                state = 'f';
            } else if (state == 'f' && letter) {
                state = 's';
            } else if (state == 'f' && c == '(' && open < 4) {
                open++;
            } else if (state == 's' && c == ')' && open > 0) {
                open--;
            } else if (state == 's' && (c == '/' || c == '.')) {
                state = 'f';
            } else if (state == 's' && c == '^') {
                state = 'n';
            } else if (state == 's' && c == '{') {
                state = 'k';
            } else if (state == 'n' && digit) {
                state = 's';
            } else if (state == 'k' && digit) {
                first = c - '0';
                state = 'K';
            } else if (state == 'K' && digit && first == 1 && c <= '5') {
                first = 99;
            } else if (state == 'K' && c == ',') {
                state = 'k';
            } else if (state == 'K' && c == '}') {
                state = 's';
            } else if (state != 's' || c != '~') {
                return i;
            }
        }
        return state == 's' && open == 0 ? -1 : text.length();
    }

    /** The index of the last of some signs that stands outside of all brackets, or -1. */
    private static int lastOutside(String part, char sign) {
        int open = 0;
        int last = -1;
        for (int i = 0; i < part.length(); i++) {
            char c = part.charAt(i);
            open += c == '(' ? 1 : c == ')' ? -1 : 0;
            if (open == 0 && c == sign) {
                last = i;
            }
        }
        return last;
    }

    private Map<Integer, Integer> worth(String part) {
        int slash = lastOutside(part, '/');
        if (slash >= 0) {
            Map<Integer, Integer> all = new TreeMap<>(worth(part.substring(slash + 1)));
            all.putAll(worth(part.substring(0, slash)));
            return all;
        }
        int dot = lastOutside(part, '.');
        if (dot >= 0) {
            Map<Integer, Integer> behind = worth(part.substring(dot + 1));
            Map<Integer, Integer> all = new TreeMap<>();
            worth(part.substring(0, dot)).forEach((key, value) -> {
                if (behind.containsKey(value)) {
                    all.put(key, behind.get(value));
                }
            });
            return all;
        }
        int end = part.length() - 1;
        char last = part.charAt(end);
        if (last == '~') {
            return inverse(worth(part.substring(0, end)));
        }
        if (last == '}') {
            int start = part.lastIndexOf('{');
            Map<Integer, Integer> all = new TreeMap<>(worth(part.substring(0, start)));
            List<String> keys = Arrays.asList(part.substring(start + 1, end).split(","));
            all.keySet().removeIf(key -> !keys.contains(String.valueOf(key)));
            return all;
        }
        if (last >= '0' && last <= '9') {
            return power(worth(part.substring(0, end - 1)), last - '0');
        }
        return last == ')' ? worth(part.substring(1, end)) : values(last - 'A');
    }

    private Map<Integer, Integer> inverse(Map<Integer, Integer> values) {
        Map<Integer, List<Integer>> back = new TreeMap<>();
        values.forEach((key, value) -> back.computeIfAbsent(value, v -> new ArrayList<>()).add(key));
        Map<Integer, Integer> all = new TreeMap<>();
        back.forEach((value, keys) -> {
            if (keys.size() == 1 || now.rule == 1) {
                all.put(value, Collections.min(keys));
            } else if (now.rule == 2) {
                all.put(value, Collections.max(keys));
            }
        });
        return all;
    }

    private static Map<Integer, Integer> power(Map<Integer, Integer> values, int steps) {
        Map<Integer, Integer> all = new TreeMap<>();
        for (int key = 0; key < 16; key++) {
            all.put(key, key);
        }
        for (int i = 0; i < steps; i++) {
            all.replaceAll((key, at) -> values.getOrDefault(at, 16));
        }
        all.values().removeIf(at -> at == 16);
        return all;
    }

    // ---- acts

    int push(int map) {
        if (badMap(map)) {
            return UNKNOWN;
        }
        int fault = layerFault(text);
        if (fault >= 0) {
            return -100 - fault;
        }
        if (now.maps.get(map).size() == 4) {
            return FULL;
        }
        record(now.copy());
        Layer layer = new Layer();
        for (String entry : text.split(",")) {
            String[] sides = entry.split(">");
            layer.entries.put(Integer.valueOf(sides[0]), sides[1].equals("-") ? 16 : Integer.parseInt(sides[1]));
        }
        now.maps.get(map).add(layer);
        return now.maps.get(map).size();
    }

    int pop(int map) {
        if (badMap(map)) {
            return UNKNOWN;
        }
        List<Layer> layers = now.maps.get(map);
        if (layers.isEmpty()) {
            return NONE;
        }
        record(now.copy());
        return layers.remove(layers.size() - 1).entries.size();
    }

    int turn(int map, int layer, boolean on) {
        if (badLayer(map, layer)) {
            return UNKNOWN;
        }
        if (now.maps.get(map).get(layer).on == on) {
            return NONE;
        }
        record(now.copy());
        Map<Integer, Integer> before = values(map);
        now.maps.get(map).get(layer).on = on;
        return changed(before, values(map));
    }

    int lift(int map, int layer, int place) {
        if (badLayer(map, layer)) {
            return UNKNOWN;
        }
        if (badLayer(map, place)) {
            return BAD_VALUE;
        }
        if (layer == place) {
            return NONE;
        }
        record(now.copy());
        Map<Integer, Integer> before = values(map);
        List<Layer> layers = now.maps.get(map);
        layers.add(place, layers.remove(layer));
        return changed(before, values(map));
    }

    int setEntry(int map, int layer, int key, int value) {
        if (badLayer(map, layer) || badKey(key)) {
            return UNKNOWN;
        }
        if (value < 0 || value > 17) {
            return BAD_VALUE;
        }
        int before = entry(map, layer, key);
        if (before == value) {
            return NONE;
        }
        record(now.copy());
        TreeMap<Integer, Integer> entries = now.maps.get(map).get(layer).entries;
        entries.remove(key);
        if (value < 17) {
            entries.put(key, value);
        }
        return before;
    }

    private int makeOneLayer(int map, Map<Integer, Integer> values) {
        record(now.copy());
        Layer layer = new Layer();
        layer.entries.putAll(values);
        now.maps.get(map).clear();
        now.maps.get(map).add(layer);
        return values.size();
    }

    int flatten(int map) {
        if (badMap(map)) {
            return UNKNOWN;
        }
        List<Layer> layers = now.maps.get(map);
        if (layers.isEmpty()) {
            return NONE;
        }
        Layer only = layers.get(0);
        if (layers.size() == 1 && only.on && !only.entries.containsValue(16)) {
            return NONE;
        }
        return makeOneLayer(map, values(map));
    }

    int assign() {
        int fault = expressionFault(text);
        return fault >= 0 ? -100 - fault : makeOneLayer(text.charAt(0) - 'A', worth(text.substring(2)));
    }

    int setRule(int rule) {
        if (rule < 0 || rule > 2) {
            return BAD_VALUE;
        }
        int before = now.rule;
        if (before == rule) {
            return NONE;
        }
        record(now.copy());
        now.rule = rule;
        return before;
    }

    int hide(int map, int suspects) {
        if (badMap(map)) {
            return UNKNOWN;
        }
        if (suspects < 1 || suspects > 63 || (suspects & 1 << map) == 0) {
            return BAD_VALUE;
        }
        record(now.copy());
        now.known = new ArrayList<>();
        now.suspects = new TreeSet<>();
        for (int i = 0; i < 6; i++) {
            now.known.add(values(i));
            if ((suspects & 1 << i) != 0) {
                now.suspects.add(i);
            }
        }
        now.hidden = map;
        now.asked = 0;
        return now.suspects.size();
    }

    private int known(int map, int key) {
        return now.known.get(map).getOrDefault(key, 16);
    }

    int ask(int key) {
        if (badKey(key)) {
            return UNKNOWN;
        }
        if (now.hidden < 0) {
            return NOT_POSSIBLE;
        }
        record(now.copy());
        int value = known(now.hidden, key);
        now.suspects.removeIf(map -> known(map, key) != value);
        now.asked++;
        return value;
    }

    int type(char character) {
        if (text.length() == 60) {
            return FULL;
        }
        text += character;
        return text.length();
    }

    int clearText() {
        int before = text.length();
        text = "";
        return before;
    }

    int undo() {
        if (history.isEmpty()) {
            return NONE;
        }
        now = history.remove(history.size() - 1);
        return history.size();
    }

    int keep() {
        kept = now.copy();
        return count(1);
    }

    int restore() {
        if (kept == null) {
            return NONE;
        }
        record(now.copy());
        now = kept.copy();
        return count(1);
    }

    // ---- what is told

    int get(int map, int key) {
        return badMap(map) || badKey(key) ? UNKNOWN : values(map).getOrDefault(key, NONE);
    }

    int tells(int map, int key) {
        if (badMap(map) || badKey(key)) {
            return UNKNOWN;
        }
        int teller = NONE;
        List<Layer> layers = now.maps.get(map);
        for (int i = 0; i < layers.size(); i++) {
            teller = layers.get(i).on && layers.get(i).entries.containsKey(key) ? i : teller;
        }
        return teller;
    }

    private int shadowed(int map, int layer) {
        int number = 0;
        List<Layer> layers = now.maps.get(map);
        for (int key : layers.get(layer).entries.keySet()) {
            boolean above = false;
            for (int upper = layer + 1; upper < layers.size(); upper++) {
                above |= layers.get(upper).on && layers.get(upper).entries.containsKey(key);
            }
            number += above && layers.get(layer).on ? 1 : 0;
        }
        return number;
    }

    private static int cycle(Map<Integer, Integer> values, int key) {
        int at = key;
        for (int steps = 1; steps <= 16; steps++) {
            at = values.getOrDefault(at, 16);
            if (at == key) {
                return steps;
            }
        }
        return 0;
    }

    int map(int map, int what) {
        if (badMap(map)) {
            return UNKNOWN;
        }
        if (what < 0 || what > 8) {
            return BAD_VALUE;
        }
        List<Layer> layers = now.maps.get(map);
        Map<Integer, Integer> values = values(map);
        int on = 0;
        int shadowed = 0;
        for (int i = 0; i < layers.size(); i++) {
            on += layers.get(i).on ? 1 : 0;
            shadowed += shadowed(map, i);
        }
        TreeSet<Integer> fixed = new TreeSet<>();
        TreeSet<Integer> cyclic = new TreeSet<>();
        int longest = 0;
        for (int key = 0; key < 16; key++) {
            longest = Math.max(longest, cycle(values, key));
            if (cycle(values, key) > 0) {
                cyclic.add(key);
            }
            if (cycle(values, key) == 1) {
                fixed.add(key);
            }
        }
        boolean oneToOne = new TreeSet<>(values.values()).size() == values.size();
        return new int[] {layers.size(), on, 65535 - bits(values.keySet()), bits(values.values()), oneToOne ? 1 : 0,
            bits(fixed), shadowed, bits(cyclic), longest}[what];
    }

    int layer(int map, int layer, int what) {
        if (badLayer(map, layer)) {
            return UNKNOWN;
        }
        if (what < 0 || what > 3) {
            return BAD_VALUE;
        }
        Layer it = now.maps.get(map).get(layer);
        int nowhere = Collections.frequency(it.entries.values(), 16);
        return new int[] {it.entries.size(), it.on ? 1 : 0, shadowed(map, layer), nowhere}[what];
    }

    int entry(int map, int layer, int key) {
        if (badLayer(map, layer) || badKey(key)) {
            return UNKNOWN;
        }
        return now.maps.get(map).get(layer).entries.getOrDefault(key, 17);
    }

    int follow(int map, int key, int what) {
        if (badMap(map) || badKey(key)) {
            return UNKNOWN;
        }
        if (what < 0 || what > 2) {
            return BAD_VALUE;
        }
        Map<Integer, Integer> values = values(map);
        List<Integer> met = new ArrayList<>();
        int at = key;
        while (!met.contains(at)) {
            met.add(at);
            if (!values.containsKey(at)) {
                return what == 0 ? met.size() - 1 : NONE;
            }
            at = values.get(at);
        }
        return what == 0 ? NONE : what == 1 ? met.size() : met.size() - met.indexOf(at);
    }

    int after(int map, int key, int steps) {
        if (badMap(map) || badKey(key)) {
            return UNKNOWN;
        }
        if (steps < 0 || steps > 1000000) {
            return BAD_VALUE;
        }
        Map<Integer, Integer> values = values(map);
        int at = key;
        for (int i = 0; i < steps; i++) {
            if (!values.containsKey(at)) {
                return NONE;
            }
            at = values.get(at);
        }
        return at;
    }

    int gives(int key) {
        if (badKey(key)) {
            return UNKNOWN;
        }
        int fault = expressionFault(text);
        return fault >= 0 ? -100 - fault : worth(text.substring(2)).getOrDefault(key, NONE);
    }

    int differ(int map, int other) {
        return badMap(map) || badMap(other) ? UNKNOWN : difference(values(map), values(other));
    }

    int probes(int maps) {
        if (maps < 1 || maps > 63) {
            return BAD_VALUE;
        }
        List<Integer> differences = new ArrayList<>();
        for (int map = 0; map < 6; map++) {
            for (int other = map + 1; other < 6; other++) {
                if ((maps >> map & maps >> other & 1) == 1 && differ(map, other) != 0) {
                    differences.add(differ(map, other));
                }
            }
        }
        int best = 65535;
        for (int keys = 0; keys < 65536; keys++) {
            int candidate = keys;
            if (Integer.bitCount(keys) < Integer.bitCount(best)
                && differences.stream().allMatch(difference -> (difference & candidate) != 0)) {
                best = keys;
            }
        }
        return best;
    }

    private Map<Integer, Integer> groupSizes(int key) {
        Map<Integer, Integer> sizes = new HashMap<>();
        now.suspects.forEach(map -> sizes.merge(known(map, key), 1, Integer::sum));
        return sizes;
    }

    int hidden(int what) {
        if (what < 0 || what > 5) {
            return BAD_VALUE;
        }
        if (now.hidden < 0) {
            return NOT_POSSIBLE;
        }
        boolean found = true;
        for (int map : now.suspects) {
            found &= now.known.get(map).equals(now.known.get(now.hidden));
        }
        if (what < 3) {
            return new int[] {bits(now.suspects), now.asked, found ? 1 : 0}[what];
        }
        if (found) {
            return NONE;
        }
        List<Integer> keys = new ArrayList<>();
        for (int key = 0; key < 16; key++) {
            keys.add(key);
        }
        keys.sort(java.util.Comparator.<Integer>comparingInt(key -> Collections.max(groupSizes(key).values()))
            .thenComparingInt(key -> -groupSizes(key).size()));
        int best = keys.get(0);
        return what == 3 ? best : split(best, 5 - what);
    }

    int split(int key, int what) {
        if (badKey(key)) {
            return UNKNOWN;
        }
        if (what < 0 || what > 1) {
            return BAD_VALUE;
        }
        if (now.hidden < 0) {
            return NOT_POSSIBLE;
        }
        return what == 0 ? groupSizes(key).size() : Collections.max(groupSizes(key).values());
    }

    int count(int what) {
        int layers = 0;
        int entries = 0;
        int shadowed = 0;
        for (int map = 0; map < 6; map++) {
            layers += now.maps.get(map).size();
            for (int i = 0; i < now.maps.get(map).size(); i++) {
                entries += now.maps.get(map).get(i).entries.size();
                shadowed += shadowed(map, i);
            }
        }
        TreeSet<String> kinds = new TreeSet<>();
        for (int map = 0; map < 6; map++) {
            kinds.add(values(map).toString());
        }
        if (what < 0 || what > 6) {
            return BAD_VALUE;
        }
        return new int[] {now.rule, layers, entries, shadowed, 6 - kinds.size(), history.size(), text.length()}[what];
    }
}
