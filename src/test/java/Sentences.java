/** What the tests of single sentences have in common. */
abstract class Sentences {
    static final int UNKNOWN = -1;
    static final int BAD_VALUE = -2;
    static final int FULL = -3;
    static final int NOT_POSSIBLE = -4;
    static final int NONE = -5;

    static final int NOWHERE = 16;
    static final int ABSENT = 17;
    static final int ALL_KEYS = 65535;

    /** One too small, one too large, and what a wrap-around would bring back; the layers are those of three. */
    static final int[] NO_MAPS = {-1, 6, Integer.MIN_VALUE, Integer.MAX_VALUE, 256, 65536};
    static final int[] NO_LAYERS = {-1, 3, 4, Integer.MIN_VALUE, Integer.MAX_VALUE, 256, 65536};
    static final int[] NO_KEYS = {-1, 16, Integer.MIN_VALUE, Integer.MAX_VALUE, 32, 65536};

    /** A call that is asked for its answer. */
    interface Call {
        int on(Run x);
    }

    static int fault(int index) {
        return -100 - index;
    }

    static void due(String what, long got, long want) {
        Check.due(what, got, want);
    }

    static void due(String what, boolean is) {
        Check.due(what, is);
    }

    /** The call answers so, and changes nothing. */
    static void refused(String what, int want, Calls before, Call call) {
        Check.nothingChanged(what, before, x -> due(what, call.on(x), want));
    }

    /** The call answers so, counts one state more in the history, and undo() makes all as it was before. */
    static void recorded(String what, int want, Calls before, Call call) {
        int states = before.onNew().count(5);
        due(what + ": there is room in the history", states < 4);
        Calls after = before.then(x -> due(what, call.on(x), want));
        due(what + ": states in the history", after.onNew().count(5), states + 1);
        Calls undone = after.then(x -> due(what + ": undone", x.undo(), states));
        due(what + ": all is as before", Whole.of(before).equals(Whole.of(undone)));
    }

    /** Map B leads from each key to the next one, and from the last to the first. */
    static void wholeCycle(Run x) {
        x.push(1, "0>1,1>2,2>3,3>4,4>5,5>6,6>7,7>8,8>9,9>10,10>11,11>12");
        x.push(1, "12>13,13>14,14>15,15>0");
        x.flatten(1);
    }

    /**
     * Three layers in A (the one between is off), four in F, one in B and in C; D and E have none. A is hidden
     * among A, B and C, a key was asked that left A and C, there is a snapshot of another state, and the history
     * is full.
     */
    static void filled(Run x) {
        x.push(5, "0>1,15>-");
        x.push(5);
        x.push(5);
        x.push(5);
        x.setRule(1);
        x.push(0, "0>1,1>2,2>0,15>14");
        x.push(0, "0>3,3>-,14>15");
        x.push(0, "1>1,4>-");
        x.keep();
        x.push(1, "0>5,15>15");
        x.push(2, "15>14,3>3");
        x.turn(0, 1, false);
        x.hide(0, 7);
        x.ask(15);
        x.write("D=A~/B");
    }

    /** The same maps, with their own state in the snapshot and no more than one state in the history. */
    static void withRoom(Run x) {
        filled(x);
        x.keep();
        while (x.undo() > 0) {
            continue;
        }
        x.restore();
    }
}
