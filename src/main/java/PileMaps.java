import java.util.Arrays;

/** Six maps from keys to keys; each one is a pile of layers. README.md tells how to use it. */
public final class PileMaps {

    public static final int UNKNOWN = -1;
    public static final int BAD_VALUE = -2;
    public static final int FULL = -3;
    public static final int NOT_POSSIBLE = -4;
    public static final int NONE = -5;

    private static final int KEYS = 16;
    private static final int ALL_KEYS = 65535;
    private static final int MAPS = 6;
    private static final int ALL_MAPS = 63;
    private static final int MAP_PAIRS = 15;
    private static final int LAYERS = 4;
    private static final int RULES = 3;
    private static final int STATES = 4;
    private static final int SIGNS = 60;
    private static final int BRACKETS = 4;
    private static final int MOST_STEPS = 1000000;

    /** In a row of values: no value. In a layer: an entry that leads nowhere. */
    private static final int HOLE = 16;
    /** In a layer alone: no entry. */
    private static final int ABSENT = 17;

    private static final int RULE_LOWEST = 1;
    private static final int RULE_HIGHEST = 2;

    private static final int NOBODY = -1;
    private static final int NO_FAULT = -1;
    private static final int FAULT_BASE = -100;

    private final State now;
    private final State[] past;
    private final State kept;
    private final Reader reader;
    private final int[] differences;
    private int pastCount;
    private boolean hasKept;

    public PileMaps() {
        now = new State();
        past = new State[STATES];
        for (int i = 0; i < STATES; i++) {
            past[i] = new State();
        }
        kept = new State();
        reader = new Reader();
        differences = new int[MAP_PAIRS];
        pastCount = 0;
        hasKept = false;
    }

    // ---- layers

    public int push(int map) {
        if (!isMap(map)) {
            return UNKNOWN;
        }
        int fault = reader.readLayer();
        if (fault != NO_FAULT) {
            return FAULT_BASE - fault;
        }
        Pile pile = now.piles[map];
        if (pile.height >= LAYERS) {
            return FULL;
        }
        record();
        pile.addLayer(reader.result);
        return pile.height;
    }

    public int pop(int map) {
        if (!isMap(map)) {
            return UNKNOWN;
        }
        Pile pile = now.piles[map];
        if (pile.height <= 0) {
            return NONE;
        }
        record();
        return pile.removeTop();
    }

    public int turn(int map, int layer, boolean on) {
        if (!isLayer(map, layer)) {
            return UNKNOWN;
        }
        Pile pile = now.piles[map];
        if (pile.on[layer] == on) {
            return NONE;
        }
        record();
        pile.on[layer] = on;
        return pile.settle();
    }

    public int lift(int map, int layer, int place) {
        if (!isLayer(map, layer)) {
            return UNKNOWN;
        }
        if (!isLayer(map, place)) {
            return BAD_VALUE;
        }
        if (layer == place) {
            return NONE;
        }
        record();
        Pile pile = now.piles[map];
        pile.moveLayer(layer, place);
        return pile.settle();
    }

    public int setEntry(int map, int layer, int key, int value) {
        if (!isLayer(map, layer) || !isKey(key)) {
            return UNKNOWN;
        }
        if (value < 0 || value > ABSENT) {
            return BAD_VALUE;
        }
        Pile pile = now.piles[map];
        int before = pile.entries[layer][key];
        if (before == value) {
            return NONE;
        }
        record();
        pile.entries[layer][key] = value;
        pile.settle();
        return before;
    }

    public int flatten(int map) {
        if (!isMap(map)) {
            return UNKNOWN;
        }
        Pile pile = now.piles[map];
        if (pile.isFlat()) {
            return NONE;
        }
        record();
        return pile.becomeOneLayer(pile.values);
    }

    public int assign() {
        int fault = reader.readAssignment(now);
        if (fault != NO_FAULT) {
            return FAULT_BASE - fault;
        }
        int map = reader.target;
        if (!isMap(map)) {
            return UNKNOWN;
        }
        record();
        return now.piles[map].becomeOneLayer(reader.result);
    }

    public int setRule(int rule) {
        if (rule < 0 || rule >= RULES) {
            return BAD_VALUE;
        }
        int before = now.rule;
        if (before == rule) {
            return NONE;
        }
        record();
        now.rule = rule;
        return before;
    }

    // ---- a hidden map

    public int hide(int map, int suspects) {
        if (!isMap(map)) {
            return UNKNOWN;
        }
        if (suspects < 1 || suspects > ALL_MAPS || (suspects >> map & 1) == 0) {
            return BAD_VALUE;
        }
        record();
        now.secret.start(map, suspects, now.piles);
        return Integer.bitCount(suspects);
    }

    public int ask(int key) {
        if (!isKey(key)) {
            return UNKNOWN;
        }
        if (!now.secret.isRunning()) {
            return NOT_POSSIBLE;
        }
        record();
        return now.secret.answer(key);
    }

    // ---- texts

    public int type(char character) {
        return reader.text.add(character) ? reader.text.length : FULL;
    }

    public int clearText() {
        int before = reader.text.length;
        reader.text.length = 0;
        return before;
    }

    // ---- history

    public int undo() {
        if (pastCount <= 0 || pastCount > STATES) {
            return NONE;
        }
        pastCount--;
        now.copyFrom(past[pastCount]);
        return pastCount;
    }

    public int keep() {
        kept.copyFrom(now);
        hasKept = true;
        return now.layers();
    }

    public int restore() {
        if (!hasKept) {
            return NONE;
        }
        record();
        now.copyFrom(kept);
        return now.layers();
    }

    // ---- what is told

    public int get(int map, int key) {
        if (!isMap(map) || !isKey(key)) {
            return UNKNOWN;
        }
        return orNone(now.piles[map].values[key]);
    }

    public int tells(int map, int key) {
        if (!isMap(map) || !isKey(key)) {
            return UNKNOWN;
        }
        int layer = now.piles[map].tellingLayer(key);
        return layer == NOBODY ? NONE : layer;
    }

    public int map(int map, int what) {
        if (!isMap(map)) {
            return UNKNOWN;
        }
        Pile pile = now.piles[map];
        switch (what) {
            case 0: return pile.height;
            case 1: return pile.layersOn();
            case 2: return Row.holes(pile.values);
            case 3: return Row.image(pile.values);
            case 4: return Row.isOneToOne(pile.values) ? 1 : 0;
            case 5: return Row.fixed(pile.values);
            case 6: return pile.shadowed();
            case 7: return Row.cyclic(pile.values);
            case 8: return Row.longestCycle(pile.values);
            default: return BAD_VALUE;
        }
    }

    public int layer(int map, int layer, int what) {
        if (!isLayer(map, layer)) {
            return UNKNOWN;
        }
        Pile pile = now.piles[map];
        switch (what) {
            case 0: return pile.entriesIn(layer);
            case 1: return pile.on[layer] ? 1 : 0;
            case 2: return pile.shadowedIn(layer);
            case 3: return pile.nowhereIn(layer);
            default: return BAD_VALUE;
        }
    }

    public int entry(int map, int layer, int key) {
        if (!isLayer(map, layer) || !isKey(key)) {
            return UNKNOWN;
        }
        return now.piles[map].entries[layer][key];
    }

    public int follow(int map, int key, int what) {
        if (!isMap(map) || !isKey(key)) {
            return UNKNOWN;
        }
        int[] values = now.piles[map].values;
        switch (what) {
            case 0: return Row.stepsToHole(values, key);
            case 1: return Row.stepsToSecondMeeting(values, key);
            case 2: return Row.cycleMet(values, key);
            default: return BAD_VALUE;
        }
    }

    public int after(int map, int key, int steps) {
        if (!isMap(map) || !isKey(key)) {
            return UNKNOWN;
        }
        if (steps < 0 || steps > MOST_STEPS) {
            return BAD_VALUE;
        }
        return orNone(Row.walkFar(now.piles[map].values, key, steps));
    }

    public int gives(int key) {
        if (!isKey(key)) {
            return UNKNOWN;
        }
        int fault = reader.readAssignment(now);
        if (fault != NO_FAULT) {
            return FAULT_BASE - fault;
        }
        return orNone(reader.result[key]);
    }

    public int differ(int map, int other) {
        if (!isMap(map) || !isMap(other)) {
            return UNKNOWN;
        }
        return Row.difference(now.piles[map].values, now.piles[other].values);
    }

    public int probes(int maps) {
        if (maps < 1 || maps > ALL_MAPS) {
            return BAD_VALUE;
        }
        int pairs = collectDifferences(maps);
        for (int size = 0; size < KEYS; size++) {
            int keys = leastSetOfSize(size, pairs);
            if (keys <= ALL_KEYS) {
                return keys;
            }
        }
        return ALL_KEYS;
    }

    public int hidden(int what) {
        if (what < 0 || what > 5) {
            return BAD_VALUE;
        }
        Secret secret = now.secret;
        if (!secret.isRunning()) {
            return NOT_POSSIBLE;
        }
        switch (what) {
            case 0: return secret.suspects;
            case 1: return secret.asked;
            case 2: return secret.isFound() ? 1 : 0;
            default: return secret.isFound() ? NONE : aboutBestKey(secret, what);
        }
    }

    public int split(int key, int what) {
        if (!isKey(key)) {
            return UNKNOWN;
        }
        if (what < 0 || what > 1) {
            return BAD_VALUE;
        }
        if (!now.secret.isRunning()) {
            return NOT_POSSIBLE;
        }
        return what == 0 ? now.secret.groups(key) : now.secret.greatestGroup(key);
    }

    public int count(int what) {
        switch (what) {
            case 0: return now.rule;
            case 1: return now.layers();
            case 2: return now.entriesOfAll();
            case 3: return now.shadowedOfAll();
            case 4: return now.repeatedMaps();
            case 5: return pastCount;
            case 6: return reader.text.length;
            default: return BAD_VALUE;
        }
    }

    // ---- helpers

    private static boolean isKey(int key) {
        return key >= 0 && key < KEYS;
    }

    private static boolean isMap(int map) {
        return map >= 0 && map < MAPS;
    }

    private boolean isLayer(int map, int layer) {
        return isMap(map) && layer >= 0 && layer < LAYERS && layer < now.piles[map].height;
    }

    private static int orNone(int value) {
        return value == HOLE ? NONE : value;
    }

    private static int aboutBestKey(Secret secret, int what) {
        int key = secret.bestKey();
        if (what == 3) {
            return key;
        }
        return what == 4 ? secret.greatestGroup(key) : secret.groups(key);
    }

    /** Every act calls this when nothing can go wrong any more, and before it changes anything. */
    private void record() {
        if (pastCount >= STATES) {
            dropOldest();
        }
        past[pastCount].copyFrom(now);
        pastCount++;
    }

    private void dropOldest() {
        State oldest = past[0];
        for (int i = 1; i < STATES; i++) {
            past[i - 1] = past[i];
        }
        past[STATES - 1] = oldest;
        pastCount = STATES - 1;
    }

    /** Puts the keys by which each pair of different maps differs into a row; returns how many pairs. */
    private int collectDifferences(int maps) {
        int pairs = 0;
        for (int map = 0; map < MAPS; map++) {
            for (int other = 0; other < map; other++) {
                boolean bothAsked = (maps >> map & 1) == 1 && (maps >> other & 1) == 1;
                int keys = bothAsked ? Row.difference(now.piles[map].values, now.piles[other].values) : 0;
                if (keys > 0 && pairs < MAP_PAIRS) {
                    differences[pairs] = keys;
                    pairs++;
                }
            }
        }
        return pairs;
    }

    /** The least set of so many keys that tells the pairs apart; more than ALL_KEYS if there is none. */
    private int leastSetOfSize(int size, int pairs) {
        int keys = (1 << size) - 1;
        for (int tries = 0; tries <= ALL_KEYS && keys <= ALL_KEYS; tries++) {
            if (tellsApart(keys, pairs)) {
                return keys;
            }
            keys = nextSetOfSameSize(keys);
        }
        return ALL_KEYS + 1;
    }

    private boolean tellsApart(int keys, int pairs) {
        for (int i = 0; i < pairs && i < MAP_PAIRS; i++) {
            if ((differences[i] & keys) == 0) {
                return false;
            }
        }
        return true;
    }

    /** The lowest run of ones moves its upper one up by a place, and its rest down to the bottom. */
    private static int nextSetOfSameSize(int keys) {
        int lowest = keys & -keys;
        if (lowest <= 0) {
            return ALL_KEYS + 1;
        }
        int raised = keys + lowest;
        return raised | ((keys ^ raised) >> 2) / lowest;
    }

    /** What can be told of, and made from, the values of 16 keys. */
    private static final class Row {

        static void copy(int[] from, int[] to) {
            System.arraycopy(from, 0, to, 0, KEYS);
        }

        /** The value of a key; a hole leads to a hole. */
        static int step(int[] values, int key) {
            return key >= 0 && key < KEYS ? values[key] : HOLE;
        }

        static int walk(int[] values, int key, int steps) {
            int at = key;
            for (int i = 0; i < steps && at != HOLE; i++) {
                at = step(values, at);
            }
            return at;
        }

        /** Who has gone 16 steps without a hole is on a cycle, and needs no more than its rest. */
        static int walkFar(int[] values, int key, int steps) {
            if (steps <= KEYS) {
                return walk(values, key, steps);
            }
            int at = walk(values, key, KEYS);
            int length = cycleOf(values, at);
            return length <= 0 ? HOLE : walk(values, at, (steps - KEYS) % length);
        }

        /** The length of the cycle on which a key stands, 0 if it stands on none. */
        static int cycleOf(int[] values, int key) {
            int at = key;
            for (int steps = 1; steps <= KEYS; steps++) {
                at = step(values, at);
                if (at == HOLE) {
                    return 0;
                }
                if (at == key) {
                    return steps;
                }
            }
            return 0;
        }

        static int stepsToHole(int[] values, int key) {
            int at = key;
            for (int steps = 0; steps < KEYS; steps++) {
                at = step(values, at);
                if (at == HOLE) {
                    return steps;
                }
            }
            return NONE;
        }

        static int stepsToSecondMeeting(int[] values, int key) {
            int at = key;
            int met = 0;
            for (int steps = 0; steps <= KEYS && at != HOLE; steps++) {
                if ((met >> at & 1) == 1) {
                    return steps;
                }
                met |= 1 << at;
                at = step(values, at);
            }
            return NONE;
        }

        static int cycleMet(int[] values, int key) {
            int at = walk(values, key, KEYS);
            return at == HOLE ? NONE : cycleOf(values, at);
        }

        static int holes(int[] values) {
            int keys = 0;
            for (int key = 0; key < KEYS; key++) {
                if (values[key] == HOLE) {
                    keys |= 1 << key;
                }
            }
            return keys;
        }

        static int image(int[] values) {
            int keys = 0;
            for (int key = 0; key < KEYS; key++) {
                if (values[key] != HOLE) {
                    keys |= 1 << values[key];
                }
            }
            return keys;
        }

        static boolean isOneToOne(int[] values) {
            int keysWithValue = KEYS - Integer.bitCount(holes(values));
            return Integer.bitCount(image(values)) == keysWithValue;
        }

        static int fixed(int[] values) {
            int keys = 0;
            for (int key = 0; key < KEYS; key++) {
                if (values[key] == key) {
                    keys |= 1 << key;
                }
            }
            return keys;
        }

        static int cyclic(int[] values) {
            int keys = 0;
            for (int key = 0; key < KEYS; key++) {
                if (cycleOf(values, key) > 0) {
                    keys |= 1 << key;
                }
            }
            return keys;
        }

        static int longestCycle(int[] values) {
            int longest = 0;
            for (int key = 0; key < KEYS; key++) {
                longest = Math.max(longest, cycleOf(values, key));
            }
            return longest;
        }

        static int difference(int[] values, int[] others) {
            int keys = 0;
            for (int key = 0; key < KEYS; key++) {
                if (values[key] != others[key]) {
                    keys |= 1 << key;
                }
            }
            return keys;
        }

        static void overlay(int[] values, int[] below) {
            for (int key = 0; key < KEYS; key++) {
                if (values[key] == HOLE) {
                    values[key] = below[key];
                }
            }
        }

        static void compose(int[] values, int[] behind) {
            for (int key = 0; key < KEYS; key++) {
                values[key] = step(behind, values[key]);
            }
        }

        static void restrict(int[] values, int keys) {
            for (int key = 0; key < KEYS; key++) {
                if ((keys >> key & 1) == 0) {
                    values[key] = HOLE;
                }
            }
        }

        static void power(int[] values, int steps, int[] to) {
            for (int key = 0; key < KEYS; key++) {
                to[key] = walk(values, key, steps);
            }
        }

        static void inverse(int[] values, int rule, int[] to) {
            Arrays.fill(to, HOLE);
            int met = 0;
            for (int key = 0; key < KEYS; key++) {
                int value = values[key];
                if (!isKey(value)) {
                    continue;
                }
                boolean first = (met >> value & 1) == 0;
                if (first || rule == RULE_HIGHEST) {
                    to[value] = key;
                } else if (rule != RULE_LOWEST) {
                    to[value] = HOLE;
                }
                met |= 1 << value;
            }
        }
    }

    /** One map. Its values are worked out anew by settle() whenever its layers have changed. */
    private static final class Pile {

        final int[][] entries;
        final boolean[] on;
        final int[] values;
        int height;

        Pile() {
            entries = new int[LAYERS][KEYS];
            on = new boolean[LAYERS];
            values = new int[KEYS];
            height = 0;
            Arrays.fill(values, HOLE);
        }

        void copyFrom(Pile other) {
            for (int layer = 0; layer < LAYERS; layer++) {
                Row.copy(other.entries[layer], entries[layer]);
                on[layer] = other.on[layer];
            }
            Row.copy(other.values, values);
            height = other.height;
        }

        /** Returns how many values have become others. */
        int settle() {
            int changed = 0;
            for (int key = 0; key < KEYS; key++) {
                int layer = tellingLayer(key);
                int value = layer == NOBODY ? HOLE : entries[layer][key];
                if (values[key] != value) {
                    changed++;
                }
                values[key] = value;
            }
            return changed;
        }

        int tellingLayer(int key) {
            for (int layer = LAYERS - 1; layer >= 0; layer--) {
                if (layer < height && on[layer] && entries[layer][key] != ABSENT) {
                    return layer;
                }
            }
            return NOBODY;
        }

        void addLayer(int[] row) {
            if (height >= LAYERS) {
                return;
            }
            Row.copy(row, entries[height]);
            on[height] = true;
            height++;
            settle();
        }

        /** Returns how many entries the layer had that is gone. */
        int removeTop() {
            if (height <= 0) {
                return 0;
            }
            height--;
            settle();
            return entriesIn(height);
        }

        /** Returns how many entries the only layer has. The row may be that of the values. */
        int becomeOneLayer(int[] row) {
            for (int key = 0; key < KEYS; key++) {
                entries[0][key] = row[key] == HOLE ? ABSENT : row[key];
            }
            on[0] = true;
            height = 1;
            settle();
            return entriesIn(0);
        }

        void moveLayer(int layer, int place) {
            for (int at = layer; at < place; at++) {
                swapWithNext(at);
            }
            for (int at = layer; at > place; at--) {
                swapWithNext(at - 1);
            }
        }

        private void swapWithNext(int layer) {
            if (layer < 0 || layer + 1 >= LAYERS) {
                return;
            }
            for (int key = 0; key < KEYS; key++) {
                int held = entries[layer][key];
                entries[layer][key] = entries[layer + 1][key];
                entries[layer + 1][key] = held;
            }
            boolean heldOn = on[layer];
            on[layer] = on[layer + 1];
            on[layer + 1] = heldOn;
        }

        boolean isFlat() {
            return height == 0 || (height == 1 && on[0] && nowhereIn(0) == 0);
        }

        int layersOn() {
            int number = 0;
            for (int layer = 0; layer < height && layer < LAYERS; layer++) {
                if (on[layer]) {
                    number++;
                }
            }
            return number;
        }

        int entriesIn(int layer) {
            int number = 0;
            for (int key = 0; key < KEYS; key++) {
                if (entries[layer][key] != ABSENT) {
                    number++;
                }
            }
            return number;
        }

        int nowhereIn(int layer) {
            int number = 0;
            for (int key = 0; key < KEYS; key++) {
                if (entries[layer][key] == HOLE) {
                    number++;
                }
            }
            return number;
        }

        /** The telling layer is the uppermost one of those that are on, so what is below it is shadowed. */
        int shadowedIn(int layer) {
            int number = 0;
            for (int key = 0; key < KEYS; key++) {
                if (on[layer] && entries[layer][key] != ABSENT && tellingLayer(key) > layer) {
                    number++;
                }
            }
            return number;
        }

        int shadowed() {
            int number = 0;
            for (int layer = 0; layer < height && layer < LAYERS; layer++) {
                number += shadowedIn(layer);
            }
            return number;
        }

        int allEntries() {
            int number = 0;
            for (int layer = 0; layer < height && layer < LAYERS; layer++) {
                number += entriesIn(layer);
            }
            return number;
        }
    }

    /** The hidden map, with what all maps were when it was hidden. */
    private static final class Secret {

        final int[][] known;
        int place;
        int suspects;
        int asked;

        Secret() {
            known = new int[MAPS][KEYS];
            place = NOBODY;
            suspects = 0;
            asked = 0;
        }

        void copyFrom(Secret other) {
            for (int map = 0; map < MAPS; map++) {
                Row.copy(other.known[map], known[map]);
            }
            place = other.place;
            suspects = other.suspects;
            asked = other.asked;
        }

        void start(int map, int among, Pile[] piles) {
            for (int each = 0; each < MAPS && each < piles.length; each++) {
                Row.copy(piles[each].values, known[each]);
            }
            place = map;
            suspects = among;
            asked = 0;
        }

        boolean isRunning() {
            return isMap(place);
        }

        boolean isSuspect(int map) {
            return (suspects >> map & 1) == 1;
        }

        /** Returns the value of the hidden map, and clears the suspects that have another one. */
        int answer(int key) {
            if (!isRunning()) {
                return HOLE;
            }
            int value = known[place][key];
            for (int map = 0; map < MAPS; map++) {
                if (known[map][key] != value) {
                    suspects &= ~(1 << map);
                }
            }
            asked++;
            return value;
        }

        boolean isFound() {
            if (!isRunning()) {
                return false;
            }
            for (int map = 0; map < MAPS; map++) {
                if (isSuspect(map) && Row.difference(known[map], known[place]) != 0) {
                    return false;
                }
            }
            return true;
        }

        /** How many of the suspects up to a map have the value that it has. */
        private int alikeUpTo(int last, int map, int key) {
            int number = 0;
            for (int other = 0; other <= last && other < MAPS; other++) {
                if (isSuspect(other) && known[other][key] == known[map][key]) {
                    number++;
                }
            }
            return number;
        }

        /** Each group is counted once, with the first suspect in it. */
        int groups(int key) {
            int number = 0;
            for (int map = 0; map < MAPS; map++) {
                if (isSuspect(map) && alikeUpTo(map, map, key) == 1) {
                    number++;
                }
            }
            return number;
        }

        int greatestGroup(int key) {
            int greatest = 0;
            for (int map = 0; map < MAPS; map++) {
                if (isSuspect(map)) {
                    greatest = Math.max(greatest, alikeUpTo(MAPS - 1, map, key));
                }
            }
            return greatest;
        }

        int bestKey() {
            int best = 0;
            for (int key = 1; key < KEYS; key++) {
                if (isBetter(key, best)) {
                    best = key;
                }
            }
            return best;
        }

        private boolean isBetter(int key, int other) {
            int greatest = greatestGroup(key);
            int otherGreatest = greatestGroup(other);
            if (greatest != otherGreatest) {
                return greatest < otherGreatest;
            }
            return groups(key) > groups(other);
        }
    }

    /** All that undo() and restore() bring back. */
    private static final class State {

        final Pile[] piles;
        final Secret secret;
        int rule;

        State() {
            piles = new Pile[MAPS];
            for (int map = 0; map < MAPS; map++) {
                piles[map] = new Pile();
            }
            secret = new Secret();
            rule = 0;
        }

        void copyFrom(State other) {
            for (int map = 0; map < MAPS; map++) {
                piles[map].copyFrom(other.piles[map]);
            }
            secret.copyFrom(other.secret);
            rule = other.rule;
        }

        int layers() {
            int number = 0;
            for (int map = 0; map < MAPS; map++) {
                number += piles[map].height;
            }
            return number;
        }

        int entriesOfAll() {
            int number = 0;
            for (int map = 0; map < MAPS; map++) {
                number += piles[map].allEntries();
            }
            return number;
        }

        int shadowedOfAll() {
            int number = 0;
            for (int map = 0; map < MAPS; map++) {
                number += piles[map].shadowed();
            }
            return number;
        }

        int repeatedMaps() {
            int number = 0;
            for (int map = 0; map < MAPS; map++) {
                if (repeatsLowerMap(map)) {
                    number++;
                }
            }
            return number;
        }

        private boolean repeatsLowerMap(int map) {
            for (int lower = 0; lower < map; lower++) {
                if (Row.difference(piles[lower].values, piles[map].values) == 0) {
                    return true;
                }
            }
            return false;
        }
    }

    /**
     * The text, and the place up to which it is read. A place is passed only by what is allowed
     * there, so where a reading stops is the fault, also at the end of the text.
     */
    private static final class Text {

        private final char[] signs;
        int length;
        int at;

        Text() {
            signs = new char[SIGNS];
            length = 0;
            at = 0;
        }

        boolean add(char sign) {
            if (length < 0 || length >= SIGNS) {
                return false;
            }
            signs[length] = sign;
            length++;
            return true;
        }

        boolean isAtEnd() {
            return at < 0 || at >= length || at >= SIGNS;
        }

        boolean take(char sign) {
            if (isAtEnd() || signs[at] != sign) {
                return false;
            }
            at++;
            return true;
        }

        /** Takes one sign from the first to the last one; returns its distance to the first one, or NOBODY. */
        private int takeBetween(char first, char last) {
            if (at < 0 || at >= length || at >= SIGNS || signs[at] < first || signs[at] > last) {
                return NOBODY;
            }
            int distance = signs[at] - first;
            at++;
            return distance;
        }

        int takeMap() {
            return takeBetween('A', 'F');
        }

        int takeDigit() {
            return takeBetween('0', '9');
        }

        /** Only behind a 1 can a second digit stand, and it is at most 5. */
        int takeKey() {
            int digit = takeBetween('0', '9');
            if (digit != 1) {
                return digit;
            }
            int second = takeBetween('0', '5');
            return second == NOBODY ? 1 : 10 + second;
        }

        /** Keys with "," between two, up to the closing bracket, as bits; or NOBODY. */
        int takeKeySet() {
            int keys = 0;
            for (int i = 0; i < SIGNS; i++) {
                int key = takeKey();
                if (key == NOBODY) {
                    return NOBODY;
                }
                keys |= 1 << key;
                if (take('}')) {
                    return keys;
                }
                if (!take(',')) {
                    return NOBODY;
                }
            }
            return NOBODY;
        }
    }

    /** Has the text, reads it as a layer or as an expression, and works out on the way what it gives. */
    private static final class Reader {

        final Text text;
        /** Two rows for each number of open brackets: of a term and of a factor. */
        private final int[][] rows;
        private final int[] work;
        final int[] result;
        int target;

        Reader() {
            text = new Text();
            rows = new int[2 * (BRACKETS + 1)][KEYS];
            work = new int[KEYS];
            result = new int[KEYS];
            target = NOBODY;
        }

        int readLayer() {
            text.at = 0;
            Arrays.fill(result, ABSENT);
            for (int i = 0; i < SIGNS; i++) {
                if (!readEntry()) {
                    return text.at;
                }
                if (text.isAtEnd()) {
                    return NO_FAULT;
                }
                if (!text.take(',')) {
                    return text.at;
                }
            }
            return text.at;
        }

        private boolean readEntry() {
            int key = text.takeKey();
            if (!isKey(key) || !text.take('>')) {
                return false;
            }
            int value = text.take('-') ? HOLE : text.takeKey();
            if (value == NOBODY) {
                return false;
            }
            result[key] = value;
            return true;
        }

        int readAssignment(State state) {
            text.at = 0;
            target = text.takeMap();
            if (target == NOBODY || !text.take('=') || !readExpression(state, result, 0)) {
                return text.at;
            }
            return text.isAtEnd() ? NO_FAULT : text.at;
        }

        /** Terms with "/" between two, each of factors with "." between two. */
        private boolean readExpression(State state, int[] into, int open) {
            if (open < 0 || open > BRACKETS) {
                return false;
            }
            int[] term = rows[2 * open];
            int[] factor = rows[2 * open + 1];
            Arrays.fill(into, HOLE);
            for (int terms = 0; terms < SIGNS; terms++) {
                if (!readFactor(state, term, open)) {
                    return false;
                }
                for (int factors = 0; factors < SIGNS && text.take('.'); factors++) {
                    if (!readFactor(state, factor, open)) {
                        return false;
                    }
                    Row.compose(term, factor);
                }
                Row.overlay(into, term);
                if (!text.take('/')) {
                    return true;
                }
            }
            return true;
        }

        private boolean readFactor(State state, int[] into, int open) {
            int map = text.takeMap();
            if (isMap(map)) {
                Row.copy(state.piles[map].values, into);
                return readSigns(state.rule, into);
            }
            if (open >= BRACKETS || !text.take('(')) {
                return false;
            }
            return readExpression(state, into, open + 1) && text.take(')') && readSigns(state.rule, into);
        }

        private boolean readSigns(int rule, int[] into) {
            for (int i = 0; i < SIGNS; i++) {
                if (text.take('~')) {
                    Row.inverse(into, rule, work);
                    Row.copy(work, into);
                } else if (text.take('^')) {
                    int steps = text.takeDigit();
                    if (steps == NOBODY) {
                        return false;
                    }
                    Row.power(into, steps, work);
                    Row.copy(work, into);
                } else if (text.take('{')) {
                    int keys = text.takeKeySet();
                    if (keys == NOBODY) {
                        return false;
                    }
                    Row.restrict(into, keys);
                } else {
                    return true;
                }
            }
            return true;
        }
    }
}
