/**
 * An object of the program, used for no more than the 512 calls that the document speaks of: what later
 * calls answer is free, so that a test which went on would ask for what nobody promised.
 */
final class Run {
    static final int MOST_CALLS = 512;

    private final PileMaps object = new PileMaps();
    private int calls = 0;

    private PileMaps called() {
        if (calls == MOST_CALLS) {
            throw new IllegalStateException("a test uses an object for more than " + MOST_CALLS + " calls");
        }
        calls++;
        return object;
    }

    int callsLeft() {
        return MOST_CALLS - calls;
    }

    // ---- the calls of the document

    int push(int map) {
        return called().push(map);
    }

    int pop(int map) {
        return called().pop(map);
    }

    int turn(int map, int layer, boolean on) {
        return called().turn(map, layer, on);
    }

    int lift(int map, int layer, int place) {
        return called().lift(map, layer, place);
    }

    int setEntry(int map, int layer, int key, int value) {
        return called().setEntry(map, layer, key, value);
    }

    int flatten(int map) {
        return called().flatten(map);
    }

    int assign() {
        return called().assign();
    }

    int setRule(int rule) {
        return called().setRule(rule);
    }

    int hide(int map, int suspects) {
        return called().hide(map, suspects);
    }

    int ask(int key) {
        return called().ask(key);
    }

    int type(char character) {
        return called().type(character);
    }

    int clearText() {
        return called().clearText();
    }

    int undo() {
        return called().undo();
    }

    int keep() {
        return called().keep();
    }

    int restore() {
        return called().restore();
    }

    int get(int map, int key) {
        return called().get(map, key);
    }

    int tells(int map, int key) {
        return called().tells(map, key);
    }

    int map(int map, int what) {
        return called().map(map, what);
    }

    int layer(int map, int layer, int what) {
        return called().layer(map, layer, what);
    }

    int entry(int map, int layer, int key) {
        return called().entry(map, layer, key);
    }

    int follow(int map, int key, int what) {
        return called().follow(map, key, what);
    }

    int after(int map, int key, int steps) {
        return called().after(map, key, steps);
    }

    int gives(int key) {
        return called().gives(key);
    }

    int differ(int map, int other) {
        return called().differ(map, other);
    }

    int probes(int maps) {
        return called().probes(maps);
    }

    int hidden(int what) {
        return called().hidden(what);
    }

    int split(int key, int what) {
        return called().split(key, what);
    }

    int count(int what) {
        return called().count(what);
    }

    // ---- a text and a call that reads it

    /** Puts a text in place of the one that was. */
    void write(String text) {
        clearText();
        for (int i = 0; i < text.length(); i++) {
            type(text.charAt(i));
        }
    }

    int push(int map, String layer) {
        write(layer);
        return push(map);
    }

    int assign(String assignment) {
        write(assignment);
        return assign();
    }

    int gives(String assignment, int key) {
        write(assignment);
        return gives(key);
    }
}
