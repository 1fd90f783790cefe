/** Promises 1 to 9: a new object, and the acts on layers. */
public final class LayersTest {
    private static final int UNKNOWN = -1;
    private static final int BAD_VALUE = -2;
    private static final int FULL = -3;
    private static final int NONE = -5;

    public static void main(String[] args) {
        newObject();
        push();
        pushFaults();
        pushFull();
        pop();
        turn();
        lift();
        liftEachWay();
        setEntry();
        flatten();
        assign();
        setRule();
        Check.end("LayersTest");
    }

    private static void newObject() {
        Run x = new Run();
        for (int map = 0; map < 6; map++) {
            Check.due("new: layers", x.map(map, 0), 0);
            Check.due("new: holes", x.map(map, 2), 65535);
            for (int key = 0; key < 16; key++) {
                Check.due("new: get", x.get(map, key), NONE);
            }
        }
        for (int what = 0; what < 7; what++) {
            Check.due("new: count " + what, x.count(what), what == 4 ? 5 : 0);
        }
        Check.due("new: hidden", x.hidden(0), -4);
        Check.due("new: restore", x.restore(), NONE);
        Check.due("new: undo", x.undo(), NONE);
        Run other = new Run();
        x.push(0, "0>1");
        Check.due("new: objects do not share", other.map(0, 0), 0);
    }

    private static void push() {
        Run x = new Run();
        Check.due("push", x.push(5, "0>15,15>0,10>-,3>4"), 1);
        Check.due("push: text stays", x.count(6), 18);
        Check.due("push: is recorded", x.count(5), 1);
        Check.due("push: value", x.get(5, 0), 15);
        Check.due("push: value", x.get(5, 15), 0);
        Check.due("push: nowhere", x.get(5, 10), NONE);
        Check.due("push: nowhere is an entry", x.entry(5, 0, 10), 16);
        Check.due("push: no entry", x.entry(5, 0, 1), 17);
        Check.due("push: is on", x.layer(5, 0, 1), 1);
        Check.due("push again", x.push(5), 2);
        Check.due("push to another map", x.push(0), 1);
        Check.due("push: last one counts", x.push(0, "0>1,0>2,1>3,1>-,2>-,2>5"), 2);
        Check.due("push: last one counts", x.get(0, 0), 2);
        Check.due("push: last one counts", x.get(0, 1), NONE);
        Check.due("push: last one counts", x.get(0, 2), 5);
        Check.due("push: upper one shadows with nowhere", x.tells(0, 1), 1);
        Check.due("push: lower one shines through", x.get(0, 3), 4);
        Check.due("push: after a pop, nothing stays of the old layer", x.pop(0), 3);
        Check.due("push: over a popped one", x.push(0, "7>7"), 2);
        Check.due("push: over a popped one", x.entry(0, 1, 0), 17);
        x.turn(0, 1, false);
        x.pop(0);
        x.push(0);
        Check.due("push: on, where one was off", x.layer(0, 1, 1), 1);
    }

    private static void pushFaults() {
        String[] texts = {"", ",", "0", "0>", "0>1,", "0>1,2", "a", "00>1", "01>1", "1>02", "16>1", "1>16",
            "15>15", "19>1", "2>20", "20>2", "10>100", "0>1 ", " 0>1", "0>>1", "0->1", "0>--", "0>-1", "-", "0>1,,",
            "0>1;1>2", "1>1>", "A=B", "0>1,1>15,2>16", "9>9", "0>\u0141", "0>+", "0>:", "0>/", "10>-", "1-"};
        int[] faults = {0, 0, 1, 2, 4, 5, 0, 1, 1, 3, 1, 3,
            -1, 1, 3, 1, 5, 3, 0, 2, 1, 3, 3, 0, 4,
            3, 3, 0, 12, -1, 2, 2, 2, 2, -1, 1};
        for (int i = 0; i < texts.length; i++) {
            Run x = new Run();
            int want = faults[i] < 0 ? 1 : -100 - faults[i];
            Check.due("push '" + texts[i] + "'", x.push(0, texts[i]), want);
            Check.due("push '" + texts[i] + "': recorded", x.count(5), faults[i] < 0 ? 1 : 0);
            Check.due("push '" + texts[i] + "': layers", x.count(1), faults[i] < 0 ? 1 : 0);
        }
        Run x = new Run();
        StringBuilder longest = new StringBuilder();
        for (int i = 0; i < 14; i++) {
            longest.append("1>2,");
        }
        Check.due("push: 60 characters", x.push(0, longest + "5>-0"), -159);
        Check.due("push: 60 characters", x.push(0, longest + "15>-"), 1);
        Check.due("push: 60 characters, ends too early", x.push(0, longest + "5>1,"), -160);
    }

    private static void pushFull() {
        Calls full = LayersTest::fillMapD;
        Check.nothingChanged("push: errors", full, x -> {
            Check.due("push 5", x.push(3), FULL);
            Check.due("push: unknown map", x.push(6), UNKNOWN);
            Check.due("push: unknown map", x.push(-1), UNKNOWN);
        });
        Run x = full.onNew();
        x.write("0>");
        Check.due("push: fault before full", x.push(3), -102);
        Check.due("push: unknown before fault", x.push(6), UNKNOWN);
    }

    private static void fillMapD(Run x) {
        x.write("0>1");
        for (int layers = 1; layers <= 4; layers++) {
            Check.due("push " + layers, x.push(3), layers);
        }
        x.keep();
        x.restore();
    }

    private static void pop() {
        Run x = new Run();
        Check.due("pop: empty", x.pop(0), NONE);
        Check.due("pop: unknown", x.pop(6), UNKNOWN);
        Check.due("pop: unknown", x.pop(-1), UNKNOWN);
        Check.due("pop: changes nothing", x.count(5), 0);
        x.push(0, "0>1,1>2,2>-");
        x.push(0, "0>-,5>5");
        x.turn(0, 1, false);
        Check.due("pop: recorded before", x.count(5), 3);
        Check.due("pop: entries, also of a layer that is off", x.pop(0), 2);
        Check.due("pop: recorded", x.count(5), 4);
        Check.due("pop: value", x.get(0, 0), 1);
        Check.due("pop: layers", x.map(0, 0), 1);
        Check.due("pop: entries, also nowhere", x.pop(0), 3);
        Check.due("pop: value", x.get(0, 0), NONE);
        Check.due("pop: empty again", x.pop(0), NONE);
    }

    private static void turn() {
        Run x = new Run();
        x.push(0, "0>1,1>2,2>3,4>4");
        x.push(0, "0>1,1>-,2>4,3>5,5>-");
        Check.due("turn: on already", x.turn(0, 1, true), NONE);
        Check.due("turn: NONE is not recorded", x.count(5), 2);
        Check.due("turn off: 1, 2, 3 change", x.turn(0, 1, false), 3);
        Check.due("turn: recorded", x.count(5), 3);
        Check.due("turn off: value", x.get(0, 1), 2);
        Check.due("turn off: already", x.turn(0, 1, false), NONE);
        Check.due("turn off the lower one", x.turn(0, 0, false), 4);
        Check.due("turn: all off", x.map(0, 2), 65535);
        Check.due("turn on the upper one", x.turn(0, 1, true), 3);
        Check.due("turn on the lower one: only 1 has no way, 4 is new", x.turn(0, 0, true), 1);
        Check.due("turn: unknown layer", x.turn(0, 2, true), UNKNOWN);
        Check.due("turn: unknown layer", x.turn(0, -1, true), UNKNOWN);
        Check.due("turn: unknown layer of an empty map", x.turn(1, 0, true), UNKNOWN);
        Check.due("turn: unknown map", x.turn(6, 0, false), UNKNOWN);
        Check.due("turn: unknown map", x.turn(-1, 0, false), UNKNOWN);
        Run y = new Run();
        y.push(2, "0>1");
        y.push(2, "0>1");
        Check.due("turn: changes no value", y.turn(2, 0, false), 0);
        Check.due("turn: also without a change recorded", y.count(5), 3);
    }

    private static void lift() {
        Run x = new Run();
        x.push(0, "0>1,1>1");
        x.push(0, "0>2,2>-");
        x.push(0, "0>3,2>4,3>3");
        Check.due("lift: is there", x.lift(0, 1, 1), NONE);
        Check.due("lift: no such place", x.lift(0, 1, 3), BAD_VALUE);
        Check.due("lift: no such place", x.lift(0, 1, -1), BAD_VALUE);
        Check.due("lift: no such layer", x.lift(0, 3, 3), UNKNOWN);
        Check.due("lift: no such layer", x.lift(0, 3, 0), UNKNOWN);
        Check.due("lift: no such layer", x.lift(0, -1, 0), UNKNOWN);
        Check.due("lift: no such map", x.lift(6, 0, 0), UNKNOWN);
        Check.due("lift: no such map", x.lift(-1, 0, 9), UNKNOWN);
        Check.due("lift: unknown before bad place", x.lift(0, 3, 4), UNKNOWN);
        Check.due("lift: empty map", x.lift(1, 0, 0), UNKNOWN);
        Check.due("lift: nothing is recorded", x.count(5), 3);
        x.turn(0, 2, false);
        Check.due("lift: one that is off changes nothing", x.lift(0, 2, 0), 0);
        Check.due("lift: it is off where it is", x.layer(0, 0, 1), 0);
        Check.due("lift: the others are on", x.layer(0, 1, 1) + x.layer(0, 2, 1), 2);
        Check.due("lift: the others have moved", x.entry(0, 1, 1), 1);
        Check.due("lift: the others have moved", x.entry(0, 2, 2), 16);
        Check.due("lift: it has its entries", x.entry(0, 0, 3), 3);
        Check.due("lift: value", x.get(0, 0), 2);
        x.turn(0, 0, true);
        Check.due("lift to the top: 0 and 2 change", x.lift(0, 0, 2), 2);
        Check.due("lift: value", x.get(0, 0), 3);
        Check.due("lift: value", x.get(0, 2), 4);
        Run y = new Run();
        y.push(1, "0>1");
        y.push(1, "0>1");
        Check.due("lift: changes no value", y.lift(1, 0, 1), 0);
        Check.due("lift: also without a change recorded", y.count(5), 3);
    }

    private static void liftEachWay() {
        for (int layer = 0; layer < 4; layer++) {
            for (int place = 0; place < 4; place++) {
                Run x = new Run();
                for (int i = 0; i < 4; i++) {
                    x.push(4, "0>" + i);
                }
                x.turn(4, layer, false);
                int want = layer == place ? NONE : 0;
                Check.due("lift " + layer + " to " + place, x.lift(4, layer, place), want);
                Check.due("lift " + layer + " to " + place + ": told", x.get(4, 0), layer == 3 ? 2 : 3);
                Check.due("lift " + layer + " to " + place + ": tells", x.tells(4, 0), toldPlace(layer, place));
                for (int at = 0; at < 4; at++) {
                    Check.due("lift: place " + at, x.entry(4, at, 0), layerAt(layer, place, at));
                    Check.due("lift: on " + at, x.layer(4, at, 1), layerAt(layer, place, at) == layer ? 0 : 1);
                }
            }
        }
    }

    private static int toldPlace(int layer, int place) {
        int told = layer == 3 ? 2 : 3;
        for (int at = 0; at < 4; at++) {
            if (layerAt(layer, place, at) == told) {
                return at;
            }
        }
        return -1;
    }

    private static int layerAt(int layer, int place, int at) {
        java.util.List<Integer> order = new java.util.ArrayList<>(java.util.List.of(0, 1, 2, 3));
        order.remove(layer);
        order.add(place, layer);
        return order.get(at);
    }

    private static void setEntry() {
        Run x = new Run();
        x.push(0, "0>1,1>-");
        Check.due("setEntry: is so", x.setEntry(0, 0, 0, 1), NONE);
        Check.due("setEntry: is so", x.setEntry(0, 0, 1, 16), NONE);
        Check.due("setEntry: is so", x.setEntry(0, 0, 2, 17), NONE);
        Check.due("setEntry: bad value", x.setEntry(0, 0, 0, 18), BAD_VALUE);
        Check.due("setEntry: bad value", x.setEntry(0, 0, 0, -1), BAD_VALUE);
        Check.due("setEntry: unknown key", x.setEntry(0, 0, 16, 0), UNKNOWN);
        Check.due("setEntry: unknown key", x.setEntry(0, 0, -1, 0), UNKNOWN);
        Check.due("setEntry: unknown layer", x.setEntry(0, 1, 0, 0), UNKNOWN);
        Check.due("setEntry: unknown layer", x.setEntry(0, -1, 0, 0), UNKNOWN);
        Check.due("setEntry: unknown map", x.setEntry(6, 0, 0, 0), UNKNOWN);
        Check.due("setEntry: unknown map", x.setEntry(-1, 0, 0, 0), UNKNOWN);
        Check.due("setEntry: unknown before bad", x.setEntry(0, 0, 16, 18), UNKNOWN);
        Check.due("setEntry: nothing is recorded", x.count(5), 1);
        Check.due("setEntry: was 1", x.setEntry(0, 0, 0, 0), 1);
        Check.due("setEntry: recorded", x.count(5), 2);
        Check.due("setEntry: value", x.get(0, 0), 0);
        Check.due("setEntry: was nowhere", x.setEntry(0, 0, 1, 15), 16);
        Check.due("setEntry: value", x.get(0, 1), 15);
        Check.due("setEntry: was none", x.setEntry(0, 0, 15, 16), 17);
        Check.due("setEntry: nowhere tells", x.tells(0, 15), 0);
        Check.due("setEntry: was nowhere", x.setEntry(0, 0, 15, 17), 16);
        Check.due("setEntry: none does not tell", x.tells(0, 15), NONE);
        Check.due("setEntry: was 0", x.setEntry(0, 0, 0, 17), 0);
        x.turn(0, 0, false);
        Check.due("setEntry: of a layer that is off", x.setEntry(0, 0, 3, 3), 17);
        Check.due("setEntry: of a layer that is off", x.get(0, 3), NONE);
        x.turn(0, 0, true);
        Check.due("setEntry: of a layer that was off", x.get(0, 3), 3);
    }

    private static void flatten() {
        Run x = new Run();
        Check.due("flatten: no layer", x.flatten(0), NONE);
        Check.due("flatten: unknown", x.flatten(6), UNKNOWN);
        Check.due("flatten: unknown", x.flatten(-1), UNKNOWN);
        x.push(0, "0>1,5>5");
        Check.due("flatten: one layer", x.flatten(0), NONE);
        Check.due("flatten: nothing is recorded", x.count(5), 1);
        x.push(0, "0>-,2>3");
        Check.due("flatten: two layers", x.flatten(0), 2);
        Check.due("flatten: recorded", x.count(5), 3);
        Check.due("flatten: one layer then", x.map(0, 0), 1);
        Check.due("flatten: no entry for a hole", x.entry(0, 0, 0), 17);
        Check.due("flatten: entry", x.entry(0, 0, 2), 3);
        Check.due("flatten: value", x.get(0, 5), 5);
        Check.due("flatten: again", x.flatten(0), NONE);
        x.turn(0, 0, false);
        Check.due("flatten: one layer that is off", x.flatten(0), 0);
        Check.due("flatten: it is on then", x.layer(0, 0, 1), 1);
        Check.due("flatten: it is empty", x.layer(0, 0, 0), 0);
        Check.due("flatten: empty layer is flat", x.flatten(0), NONE);
        x.push(1, "0>1,1>-");
        Check.due("flatten: an entry that leads nowhere", x.flatten(1), 1);
        Check.due("flatten: it is gone", x.entry(1, 0, 1), 17);
        x.push(2, "0>1");
        x.push(2, "0>1");
        Check.due("flatten: two the same", x.flatten(2), 1);
    }

    private static void assign() {
        Run x = new Run();
        x.push(0, "0>1,1>2,2>-");
        x.push(1, "1>5,2>6");
        x.push(1, "9>9");
        x.turn(1, 1, false);
        Check.due("assign", x.assign("B=A.B"), 2);
        Check.due("assign: text stays", x.count(6), 5);
        Check.due("assign: one layer", x.map(1, 0), 1);
        Check.due("assign: it is on", x.layer(1, 0, 1), 1);
        Check.due("assign: value", x.get(1, 0), 5);
        Check.due("assign: value", x.get(1, 1), 6);
        Check.due("assign: hole", x.entry(1, 0, 2), 17);
        Check.due("assign again, with what it is now", x.assign(), 1);
        Check.due("assign again: value", x.get(1, 0), 6);
        Check.due("assign a third time", x.assign(), 0);
        Check.due("assign: a layer also if none has a value", x.map(1, 0), 1);
        Check.due("assign: values as they were before", x.assign("A=A~"), 2);
        Check.due("assign: values as they were before", x.get(0, 1), 0);
        Check.due("assign: the same once more is an act", x.assign("F=F"), 0);
        Check.due("assign: layer", x.map(5, 0), 1);
        Calls before = z -> {
            z.push(5, "0>1,15>-");
            z.write("F=F");
        };
        Check.nothingChanged("assign: faults", before, z -> {
            Check.due("assign: empty text", z.assign(""), -100);
            Check.due("assign: a layer is no expression", z.assign("0>1"), -100);
            Check.due("assign: fault", z.assign("A=A "), -103);
            z.write("F=F");
        });
        Run y = new Run();
        y.assign("C=C");
        y.assign();
        Check.due("assign: recorded each time, also without a change", y.count(5), 2);
    }

    private static void setRule() {
        Run x = new Run();
        Check.due("setRule: is so", x.setRule(0), NONE);
        Check.due("setRule: bad", x.setRule(3), BAD_VALUE);
        Check.due("setRule: bad", x.setRule(-1), BAD_VALUE);
        Check.due("setRule: nothing is recorded", x.count(5), 0);
        Check.due("setRule: previous", x.setRule(2), 0);
        Check.due("setRule: recorded", x.count(5), 1);
        Check.due("setRule: is so", x.setRule(2), NONE);
        Check.due("setRule: previous", x.setRule(1), 2);
        Check.due("setRule: previous", x.setRule(0), 1);
        Check.due("setRule: rule", x.count(0), 0);
    }
}
