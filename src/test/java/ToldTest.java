/** Promises 17 to 23, 25 and 29: what is told of maps and layers. */
public final class ToldTest {
    private static final int UNKNOWN = -1;
    private static final int BAD_VALUE = -2;
    private static final int NONE = -5;

    public static void main(String[] args) {
        getAndTells();
        mapBasics();
        mapCycles();
        fullPile();
        layerTold();
        entry();
        follow();
        after();
        differ();
        count();
        countRepeated();
        nothingIsRecorded();
        Check.end("ToldTest");
    }

    private static void fill(Run x) {
        x.push(0, "0>1,1>2,2>3,15>15,6>-");
        x.push(0, "0>4,3>-,2>3");
        x.push(0, "0>5,1>-,15>15");
        x.turn(0, 1, false);
    }

    private static Run filled() {
        Run x = new Run();
        fill(x);
        return x;
    }

    private static void getAndTells() {
        Run x = filled();
        int[] keys = {0, 1, 2, 3, 6, 7, 15};
        int[] values = {5, NONE, 3, NONE, NONE, NONE, 15};
        int[] tellers = {2, 2, 0, NONE, 0, NONE, 2};
        for (int i = 0; i < keys.length; i++) {
            Check.due("get " + keys[i], x.get(0, keys[i]), values[i]);
            Check.due("tells " + keys[i], x.tells(0, keys[i]), tellers[i]);
        }
        x.turn(0, 1, true);
        Check.due("tells: the one between", x.tells(0, 3), 1);
        Check.due("tells: the one between", x.tells(0, 2), 1);
        for (int bad : new int[] {-1, 16, Integer.MAX_VALUE, Integer.MIN_VALUE}) {
            Check.due("get: key", x.get(0, bad), UNKNOWN);
            Check.due("get: map", x.get(bad, 0), UNKNOWN);
            Check.due("tells: key", x.tells(0, bad), UNKNOWN);
            Check.due("tells: map", x.tells(bad, 0), UNKNOWN);
        }
        Check.due("get: map 6", x.get(6, 0), UNKNOWN);
        Check.due("tells: map 6", x.tells(6, 0), UNKNOWN);
        Check.due("get: map 5", x.get(5, 15), NONE);
        Check.due("tells: map 5", x.tells(5, 15), NONE);
    }

    private static void mapBasics() {
        Run x = filled();
        Check.due("map: layers", x.map(0, 0), 3);
        Check.due("map: on", x.map(0, 1), 2);
        Check.due("map: holes", x.map(0, 2), 65535 - 1 - 4 - 32768);
        Check.due("map: values", x.map(0, 3), 32 + 8 + 32768);
        Check.due("map: no two the same", x.map(0, 4), 1);
        Check.due("map: own values", x.map(0, 5), 32768);
        Check.due("map: shadowed", x.map(0, 6), 3);
        x.turn(0, 1, true);
        Check.due("map: on", x.map(0, 1), 3);
        Check.due("map: shadowed", x.map(0, 6), 5);
        x.turn(0, 2, false);
        Check.due("map: shadowed", x.map(0, 6), 2);
        x.setEntry(0, 0, 7, 4);
        Check.due("map: two the same", x.map(0, 4), 0);
        x.setEntry(0, 0, 0, 4);
        Check.due("map: values", x.map(0, 3), 4 + 8 + 16 + 32768);
        for (int what : new int[] {-1, 9, Integer.MAX_VALUE, Integer.MIN_VALUE}) {
            Check.due("map: bad", x.map(0, what), BAD_VALUE);
            Check.due("map: unknown before bad", x.map(6, what), UNKNOWN);
        }
        for (int what = 0; what < 9; what++) {
            Check.due("map: unknown", x.map(6, what), UNKNOWN);
            Check.due("map: unknown", x.map(-1, what), UNKNOWN);
            int empty = what == 2 ? 65535 : what == 4 ? 1 : 0;
            Check.due("map: of an empty one, " + what, x.map(5, what), empty);
        }
        x.assign("E=F^0");
        int[] identity = {1, 1, 0, 65535, 1, 65535, 0, 65535, 1};
        for (int what = 0; what < 9; what++) {
            Check.due("map: of the identity, " + what, x.map(4, what), identity[what]);
        }
        x.pop(0);
        Check.due("map: shadowed, of what is left", x.map(0, 6), 2);
    }

    private static void mapCycles() {
        Run x = new Run();
        x.push(0, "0>1,1>2,2>0,3>2,4>3,5>6,6>5,7>7,8>9,9>10,15>15");
        Check.due("map: on a cycle", x.map(0, 7), 7 + 32 + 64 + 128 + 32768);
        Check.due("map: longest cycle", x.map(0, 8), 3);
        x.setEntry(0, 0, 2, 17);
        Check.due("map: on a cycle", x.map(0, 7), 32 + 64 + 128 + 32768);
        Check.due("map: longest cycle", x.map(0, 8), 2);
        x.setEntry(0, 0, 6, 16);
        Check.due("map: longest cycle", x.map(0, 8), 1);
        Run y = wholeCycle();
        Check.due("map: all on one cycle", y.map(1, 7), 65535);
        Check.due("map: all on one cycle", y.map(1, 8), 16);
        y.setEntry(1, 0, 15, 1);
        Check.due("map: all but one on a cycle", y.map(1, 7), 65534);
        Check.due("map: all but one on a cycle", y.map(1, 8), 15);
    }

    /** Map B leads from each key to the next one, and from the last to the first. */
    private static Run wholeCycle() {
        Run x = new Run();
        x.push(1, "0>1,1>2,2>3,3>4,4>5,5>6,6>7,7>8,8>9,9>10,10>11,11>12");
        x.setEntry(1, 0, 12, 13);
        x.setEntry(1, 0, 13, 14);
        x.setEntry(1, 0, 14, 15);
        x.setEntry(1, 0, 15, 0);
        return x;
    }

    private static void fullPile() {
        Run x = new Run();
        x.write("0>0,7>-,15>15");
        for (int layers = 1; layers <= 4; layers++) {
            x.push(5);
            Check.due("map: layers", x.map(5, 0), layers);
            Check.due("map: on", x.map(5, 1), layers);
            Check.due("map: shadowed", x.map(5, 6), 3 * (layers - 1));
            Check.due("count: layers", x.count(1), layers);
            Check.due("count: entries", x.count(2), 3 * layers);
            Check.due("count: shadowed", x.count(3), 3 * (layers - 1));
            Check.due("tells", x.tells(5, 15), layers - 1);
            Check.due("tells: also nowhere", x.tells(5, 7), layers - 1);
        }
        for (int layers = 3; layers >= 0; layers--) {
            x.pop(5);
            Check.due("map: on, of those that are left", x.map(5, 1), layers);
            Check.due("count: entries, of those that are left", x.count(2), 3 * layers);
            Check.due("tells, of those that are left", x.tells(5, 15), layers == 0 ? NONE : layers - 1);
        }
    }

    private static void layerTold() {
        Run x = filled();
        int[][] want = {{5, 1, 3, 1}, {3, 0, 0, 1}, {3, 1, 0, 1}};
        for (int layer = 0; layer < 3; layer++) {
            for (int what = 0; what < 4; what++) {
                Check.due("layer " + layer + ", " + what, x.layer(0, layer, what), want[layer][what]);
            }
            Check.due("layer: bad", x.layer(0, layer, 4), BAD_VALUE);
            Check.due("layer: bad", x.layer(0, layer, -1), BAD_VALUE);
        }
        x.turn(0, 1, true);
        Check.due("layer: shadowed by two", x.layer(0, 0, 2), 4);
        Check.due("layer: shadowed by one", x.layer(0, 1, 2), 1);
        x.turn(0, 2, false);
        Check.due("layer: shadowed by the middle one", x.layer(0, 0, 2), 2);
        Check.due("layer: off is not shadowed", x.layer(0, 2, 2), 0);
        Check.due("layer: unknown layer", x.layer(0, 3, 0), UNKNOWN);
        Check.due("layer: unknown layer", x.layer(0, -1, 0), UNKNOWN);
        Check.due("layer: unknown layer", x.layer(1, 0, 0), UNKNOWN);
        Check.due("layer: unknown map", x.layer(6, 0, 0), UNKNOWN);
        Check.due("layer: unknown map", x.layer(-1, 0, 0), UNKNOWN);
        Check.due("layer: unknown before bad", x.layer(0, 3, 4), UNKNOWN);
        x.pop(0);
        Check.due("layer: one that was taken off", x.layer(0, 2, 0), UNKNOWN);
    }

    private static void entry() {
        Run x = filled();
        Check.due("entry", x.entry(0, 0, 0), 1);
        Check.due("entry", x.entry(0, 1, 0), 4);
        Check.due("entry", x.entry(0, 2, 15), 15);
        Check.due("entry: nowhere", x.entry(0, 1, 3), 16);
        Check.due("entry: none", x.entry(0, 1, 4), 17);
        Check.due("entry: unknown key", x.entry(0, 0, 16), UNKNOWN);
        Check.due("entry: unknown key", x.entry(0, 0, -1), UNKNOWN);
        Check.due("entry: unknown layer", x.entry(0, 3, 0), UNKNOWN);
        Check.due("entry: unknown layer", x.entry(0, -1, 0), UNKNOWN);
        Check.due("entry: unknown map", x.entry(6, 0, 0), UNKNOWN);
        Check.due("entry: unknown map", x.entry(-1, 0, 0), UNKNOWN);
        Check.due("entry: of an empty map", x.entry(5, 0, 0), UNKNOWN);
    }

    private static void follow() {
        Run x = new Run();
        x.push(2, "0>1,1>2,2>3,3>1,4>0,5>5,6>7,7>8,9>-,10>9");
        int[] keys = {0, 1, 2, 3, 4, 5, 6, 7, 8, 9, 10, 15};
        int[] holes = {NONE, NONE, NONE, NONE, NONE, NONE, 2, 1, 0, 0, 1, 0};
        int[] seconds = {4, 3, 3, 3, 5, 1, NONE, NONE, NONE, NONE, NONE, NONE};
        int[] cycles = {3, 3, 3, 3, 3, 1, NONE, NONE, NONE, NONE, NONE, NONE};
        for (int i = 0; i < keys.length; i++) {
            Check.due("follow " + keys[i] + ": hole", x.follow(2, keys[i], 0), holes[i]);
            Check.due("follow " + keys[i] + ": second", x.follow(2, keys[i], 1), seconds[i]);
            Check.due("follow " + keys[i] + ": cycle", x.follow(2, keys[i], 2), cycles[i]);
            Check.due("follow: bad", x.follow(2, keys[i], 3), BAD_VALUE);
            Check.due("follow: bad", x.follow(2, keys[i], -1), BAD_VALUE);
        }
        Check.due("follow: unknown key", x.follow(2, 16, 0), UNKNOWN);
        Check.due("follow: unknown key", x.follow(2, -1, 3), UNKNOWN);
        Check.due("follow: unknown map", x.follow(6, 0, 0), UNKNOWN);
        Check.due("follow: unknown map", x.follow(-1, 0, 3), UNKNOWN);
        Run y = wholeCycle();
        Check.due("follow: the longest cycle", y.follow(1, 7, 1), 16);
        Check.due("follow: the longest cycle", y.follow(1, 7, 2), 16);
        Check.due("follow: the longest cycle", y.follow(1, 7, 0), NONE);
        y.setEntry(1, 0, 15, 15);
        Check.due("follow: the longest way to a cycle", y.follow(1, 0, 1), 16);
        Check.due("follow: the longest way to a cycle", y.follow(1, 0, 2), 1);
        y.setEntry(1, 0, 15, 16);
        Check.due("follow: the longest way to a hole", y.follow(1, 0, 0), 15);
        Check.due("follow: the longest way to a hole", y.follow(1, 0, 1), NONE);
        Check.due("follow: the longest way to a hole", y.follow(1, 0, 2), NONE);
    }

    private static void after() {
        Run x = new Run();
        x.push(2, "0>1,1>2,2>3,3>1,4>0,5>5,6>7,7>8");
        int[] fromFour = {4, 0, 1, 2, 3, 1, 2, 3, 1};
        for (int steps = 0; steps < fromFour.length; steps++) {
            Check.due("after " + steps, x.after(2, 4, steps), fromFour[steps]);
        }
        for (int steps = 9; steps < 60; steps++) {
            Check.due("after " + steps, x.after(2, 4, steps), 1 + (steps - 2) % 3);
        }
        Check.due("after: the most steps", x.after(2, 4, 1000000), 1 + 999998 % 3);
        Check.due("after: the most steps", x.after(2, 5, 1000000), 5);
        Check.due("after: one step too many", x.after(2, 5, 1000001), BAD_VALUE);
        Check.due("after: a step too few", x.after(2, 5, -1), BAD_VALUE);
        Check.due("after: to the hole", x.after(2, 6, 2), 8);
        Check.due("after: beyond the hole", x.after(2, 6, 3), NONE);
        Check.due("after: far beyond the hole", x.after(2, 6, 1000000), NONE);
        Check.due("after: no step of a hole", x.after(2, 8, 0), 8);
        Check.due("after: a step of a hole", x.after(2, 8, 1), NONE);
        Check.due("after: unknown key", x.after(2, 16, 0), UNKNOWN);
        Check.due("after: unknown key", x.after(2, -1, -1), UNKNOWN);
        Check.due("after: unknown map", x.after(6, 0, 0), UNKNOWN);
        Check.due("after: unknown map", x.after(-1, 0, 1000001), UNKNOWN);
        Run y = wholeCycle();
        for (int steps = 0; steps < 50; steps++) {
            Check.due("after: the longest cycle, " + steps, y.after(1, 3, steps), (3 + steps) % 16);
        }
        Check.due("after: the longest cycle", y.after(1, 3, 999999), (3 + 999999) % 16);
        y.setEntry(1, 0, 15, 17);
        Check.due("after: the longest way", y.after(1, 0, 15), 15);
        Check.due("after: beyond the longest way", y.after(1, 0, 16), NONE);
        Check.due("after: beyond the longest way", y.after(1, 0, 17), NONE);
    }

    private static void differ() {
        Run x = new Run();
        x.push(0, "0>1,1>2,15>3,4>-");
        x.push(1, "0>1,1>3,2>2,5>-");
        Check.due("differ", x.differ(0, 1), 2 + 4 + 32768);
        Check.due("differ: the other way round", x.differ(1, 0), 2 + 4 + 32768);
        Check.due("differ: itself", x.differ(1, 1), 0);
        Check.due("differ: from an empty one", x.differ(5, 0), 1 + 2 + 32768);
        Check.due("differ: two empty ones", x.differ(5, 4), 0);
        Check.due("differ: unknown", x.differ(6, 0), UNKNOWN);
        Check.due("differ: unknown", x.differ(0, 6), UNKNOWN);
        Check.due("differ: unknown", x.differ(-1, 0), UNKNOWN);
        Check.due("differ: unknown", x.differ(0, -1), UNKNOWN);
    }

    private static void count() {
        Run x = filled();
        x.setRule(2);
        x.push(5, "1>1,2>-");
        x.push(5, "1>1,2>-,3>3");
        Check.due("count: rule", x.count(0), 2);
        Check.due("count: layers", x.count(1), 5);
        Check.due("count: entries", x.count(2), 5 + 3 + 3 + 2 + 3);
        Check.due("count: shadowed", x.count(3), 3 + 2);
        Check.due("count: the same", x.count(4), 3);
        Check.due("count: history", x.count(5), 4);
        Check.due("count: text", x.count(6), 11);
        for (int what : new int[] {-1, 7, Integer.MAX_VALUE, Integer.MIN_VALUE}) {
            Check.due("count: bad", x.count(what), BAD_VALUE);
        }
        x.pop(5);
        Check.due("count: entries of what is left", x.count(2), 5 + 3 + 3 + 2);
        Check.due("count: shadowed of what is left", x.count(3), 3);
    }

    private static void countRepeated() {
        Run x = new Run();
        Check.due("same: all empty", x.count(4), 5);
        x.push(0, "0>1");
        Check.due("same: all but the first", x.count(4), 4);
        x.push(5, "0>1");
        Check.due("same: the last as the first", x.count(4), 4);
        x.push(3, "0>2");
        Check.due("same: one more by itself", x.count(4), 3);
        x.push(4, "0>1,1>-");
        Check.due("same: by values, not by entries", x.count(4), 3);
        x.push(1, "1>-");
        Check.due("same: by values, not by entries", x.count(4), 3);
        x.push(2, "2>2");
        x.push(1, "3>3");
        Check.due("same: few", x.count(4), 2);
    }

    /** What only tells is no act. */
    private static void nothingIsRecorded() {
        Check.nothingChanged("what is told", ToldTest::fillAndHide, ToldTest::tellAll);
    }

    private static void fillAndHide(Run x) {
        fill(x);
        x.undo();
        x.hide(0, 63);
        x.undo();
    }

    private static void tellAll(Run x) {
        x.get(0, 0);
        x.tells(0, 0);
        x.map(0, 7);
        x.layer(0, 0, 2);
        x.entry(0, 0, 0);
        x.follow(0, 0, 1);
        x.after(0, 0, 100);
        x.gives(0);
        x.differ(0, 1);
        x.probes(63);
        x.hidden(3);
        x.split(0, 0);
        x.count(4);
    }
}
