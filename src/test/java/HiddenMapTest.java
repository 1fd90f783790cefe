/** Promises 10, 11, 26, 27 and 28: a hidden map, and the keys that tell maps apart. */
public final class HiddenMapTest {
    private static final int UNKNOWN = -1;
    private static final int BAD_VALUE = -2;
    private static final int NOT_POSSIBLE = -4;
    private static final int NONE = -5;

    public static void main(String[] args) {
        nothingHidden();
        hide();
        hideErrors();
        knownByItself();
        ask();
        found();
        bestKey();
        split();
        probes();
        probesNeedKeys();
        Check.end("HiddenMapTest");
    }

    private static void nothingHidden() {
        Run x = new Run();
        Check.due("ask: nothing hidden", x.ask(0), NOT_POSSIBLE);
        Check.due("ask: unknown first", x.ask(16), UNKNOWN);
        Check.due("ask: unknown first", x.ask(-1), UNKNOWN);
        Check.due("ask: nothing recorded", x.count(5), 0);
        for (int what = 0; what < 6; what++) {
            Check.due("hidden " + what + ": nothing hidden", x.hidden(what), NOT_POSSIBLE);
        }
        Check.due("hidden: bad value first", x.hidden(6), BAD_VALUE);
        Check.due("hidden: bad value first", x.hidden(-1), BAD_VALUE);
        Check.due("split: nothing hidden", x.split(0, 0), NOT_POSSIBLE);
        Check.due("split: nothing hidden", x.split(15, 1), NOT_POSSIBLE);
        Check.due("split: bad value first", x.split(0, 2), BAD_VALUE);
        Check.due("split: bad value first", x.split(0, -1), BAD_VALUE);
        Check.due("split: unknown first", x.split(16, 2), UNKNOWN);
        Check.due("split: unknown first", x.split(-1, 2), UNKNOWN);
    }

    /** A: 0>1, B: 0>2, C: 0>1 1>1, D: 1>1, E: nothing, F: 0>2 1>1. */
    private static void fill(Run x) {
        x.push(0, "0>1");
        x.push(1, "0>2");
        x.push(2, "0>1,1>1");
        x.push(3, "1>1");
        x.push(5, "0>2,1>1");
    }

    private static Run filled() {
        Run x = new Run();
        fill(x);
        return x;
    }

    private static void hide() {
        Run x = new Run();
        Check.due("hide: least", x.hide(0, 1), 1);
        Check.due("hide: is an act", x.count(5), 1);
        Check.due("hide: suspects", x.hidden(0), 1);
        Check.due("hide: found at once", x.hidden(2), 1);
        Check.due("hide: anew", x.hide(5, 63), 6);
        Check.due("hide: anew is an act", x.count(5), 2);
        Check.due("hide: suspects", x.hidden(0), 63);
        x.ask(3);
        x.ask(3);
        Check.due("hidden: asked", x.hidden(1), 2);
        Check.due("hide: the same anew", x.hide(5, 63), 6);
        Check.due("hide: asked anew", x.hidden(1), 0);
        Check.due("hide: highest alone", x.hide(5, 32), 1);
        Check.due("undo of hide", x.undo(), 3);
        Check.due("undo of hide: suspects", x.hidden(0), 63);
    }

    private static void hideErrors() {
        Calls hidden = HiddenMapTest::fillAndHide;
        Check.nothingChanged("hide: errors", hidden, HiddenMapTest::hideWrongly);
        Check.nothingChanged("ask: errors", hidden, HiddenMapTest::askWrongly);
    }

    private static void fillAndHide(Run x) {
        fill(x);
        x.hide(1, 2);
    }

    private static void hideWrongly(Run x) {
        Check.due("hide: unknown", x.hide(6, 64), UNKNOWN);
        Check.due("hide: unknown", x.hide(-1, 63), UNKNOWN);
        Check.due("hide: no suspect", x.hide(0, 0), BAD_VALUE);
        Check.due("hide: too many", x.hide(0, 64), BAD_VALUE);
        Check.due("hide: too many", x.hide(0, 65), BAD_VALUE);
        Check.due("hide: negative", x.hide(0, -1), BAD_VALUE);
        for (int map = 0; map < 6; map++) {
            Check.due("hide: not a suspect", x.hide(map, 63 - (1 << map)), BAD_VALUE);
        }
    }

    private static void askWrongly(Run x) {
        Check.due("ask: unknown", x.ask(16), UNKNOWN);
        Check.due("ask: unknown", x.ask(-1), UNKNOWN);
        Check.due("hidden: bad", x.hidden(6), BAD_VALUE);
        Check.due("hidden: bad", x.hidden(-1), BAD_VALUE);
    }

    private static void knownByItself() {
        Run x = filled();
        Check.due("hide", x.hide(2, 63), 6);
        x.turn(2, 0, false);
        x.pop(0);
        x.assign("B=A^0");
        x.setRule(2);
        Check.due("split: as it was when hidden", x.split(0, 0), 3);
        Check.due("split: as it was when hidden", x.split(0, 1), 2);
        Check.due("ask: as it was when hidden", x.ask(0), 1);
        Check.due("ask: suspects as they were when hidden", x.hidden(0), 5);
        Check.due("ask: as it was when hidden", x.ask(1), 1);
        Check.due("ask: suspects as they were when hidden", x.hidden(0), 4);
    }

    private static void ask() {
        Run x = filled();
        x.hide(4, 63);
        Check.due("ask: a hole", x.ask(0), 16);
        Check.due("ask: is an act", x.undo(), 3);
        Check.due("undo of ask: suspects", x.hidden(0), 63);
        Check.due("undo of ask: asked", x.hidden(1), 0);
        Check.due("ask: a hole", x.ask(0), 16);
        Check.due("ask: who has no hole there is out", x.hidden(0), 8 + 16);
        Check.due("ask: again", x.ask(0), 16);
        Check.due("ask: again, asked twice", x.hidden(1), 2);
        Check.due("ask: again, the same are left", x.hidden(0), 8 + 16);
        Check.due("ask: a key where all are holes", x.ask(15), 16);
        Check.due("ask: the same are left", x.hidden(0), 8 + 16);
        Check.due("ask: not found", x.hidden(2), 0);
        Check.due("ask: another", x.ask(1), 16);
        Check.due("ask: one is left", x.hidden(0), 16);
        Check.due("ask: found", x.hidden(2), 1);
        Check.due("ask: also if it is found", x.ask(2), 16);
        Check.due("ask: asked", x.hidden(1), 5);
        x.hide(1, 2 + 8);
        Check.due("ask: among few", x.ask(0), 2);
        Check.due("ask: no map comes in that was no suspect", x.hidden(0), 2);
    }

    private static void found() {
        Run x = new Run();
        x.push(0, "3>3");
        x.push(1, "3>3,4>-");
        x.push(2, "3>3,4>4");
        x.hide(0, 3);
        Check.due("found: the same values, other entries", x.hidden(2), 1);
        Check.due("best key: none if found", x.hidden(3), NONE);
        Check.due("greatest group: none if found", x.hidden(4), NONE);
        Check.due("groups: none if found", x.hidden(5), NONE);
        x.hide(0, 7);
        Check.due("found: not yet", x.hidden(2), 0);
        Check.due("best key: the one that differs", x.hidden(3), 4);
        Check.due("greatest group", x.hidden(4), 2);
        Check.due("groups", x.hidden(5), 2);
        x.ask(4);
        Check.due("found: two are left that are the same", x.hidden(0), 3);
        Check.due("found: two are left that are the same", x.hidden(2), 1);
        Check.due("best key: none if found", x.hidden(3), NONE);
        x.hide(2, 6);
        x.ask(3);
        Check.due("found: not by an equal key", x.hidden(2), 0);
        Check.due("found: not by an equal key", x.hidden(0), 6);
    }

    private static void bestKey() {
        Run x = filled();
        x.hide(0, 63);
        Check.due("best: least greatest group", x.hidden(3), 0);
        Check.due("best: greatest group", x.hidden(4), 2);
        Check.due("best: groups", x.hidden(5), 3);
        Run y = new Run();
        y.push(0, "9>1,5>1,2>1,14>1");
        y.push(1, "9>1,5>1,2>1,14>2");
        y.push(2, "9>1,5>1,2>1,14>3");
        y.push(3, "9>1,5>2,2>2,14>4");
        y.push(4, "9>2,5>2,2>2,14>-");
        y.push(5, "9>2,5>3,2>2,14>-");
        y.hide(0, 63);
        Check.due("best: the last key but one", y.hidden(3), 14);
        Check.due("best: its greatest group", y.hidden(4), 2);
        Check.due("best: its groups", y.hidden(5), 5);
        y.assign("A=A{9,5,2}");
        y.assign("B=B{9,5,2}");
        y.assign("C=C{9,5,2}");
        y.assign("D=D{9,5,2}");
        y.hide(0, 63);
        Check.due("best: of several the one with most groups", y.hidden(3), 5);
        Check.due("best: its greatest group", y.hidden(4), 3);
        Check.due("best: its groups", y.hidden(5), 3);
        y.assign("F=F{9,2}/F.D");
        y.setEntry(5, 0, 5, 2);
        y.hide(0, 63);
        Check.due("best: of several the lowest", y.hidden(3), 2);
        y.hide(3, 8 + 16);
        Check.due("best: of two suspects", y.hidden(3), 9);
        Check.due("best: of two suspects, the greatest group", y.hidden(4), 1);
        Check.due("best: of two suspects, groups", y.hidden(5), 2);
    }

    private static void split() {
        Run x = filled();
        x.hide(5, 63);
        Check.due("split: groups", x.split(0, 0), 3);
        Check.due("split: greatest", x.split(0, 1), 2);
        Check.due("split: groups", x.split(1, 0), 2);
        Check.due("split: greatest", x.split(1, 1), 3);
        Check.due("split: all the same", x.split(15, 0), 1);
        Check.due("split: all the same", x.split(15, 1), 6);
        Check.due("split: bad", x.split(0, 2), BAD_VALUE);
        Check.due("split: bad", x.split(15, -1), BAD_VALUE);
        Check.due("split: unknown", x.split(16, 0), UNKNOWN);
        Check.due("split: unknown", x.split(-1, 0), UNKNOWN);
        x.ask(0);
        Check.due("split: only those that are left", x.split(0, 0), 1);
        Check.due("split: only those that are left", x.split(0, 1), 2);
        Check.due("split: only those that are left", x.split(1, 0), 2);
        Check.due("split: only those that are left", x.split(1, 1), 1);
        x.ask(1);
        Check.due("split: also if it is found", x.split(1, 0), 1);
        Check.due("split: also if it is found", x.split(1, 1), 1);
    }

    private static void probes() {
        Run x = filled();
        Check.due("probes: none", x.probes(0), BAD_VALUE);
        Check.due("probes: too many", x.probes(64), BAD_VALUE);
        Check.due("probes: negative", x.probes(-1), BAD_VALUE);
        for (int map = 0; map < 6; map++) {
            Check.due("probes: one map", x.probes(1 << map), 0);
        }
        Check.due("probes: all", x.probes(63), 3);
        Check.due("probes: A and B", x.probes(3), 1);
        Check.due("probes: A and C", x.probes(5), 2);
        Check.due("probes: A and D, the least", x.probes(9), 1);
        Check.due("probes: A, B, E", x.probes(1 + 2 + 16), 1);
        Check.due("probes: A, B, C", x.probes(7), 3);
        Check.due("probes: no act", x.count(5), 4);
        Run y = new Run();
        Check.due("probes: all the same", y.probes(63), 0);
        y.push(0, "15>0");
        Check.due("probes: the highest key", y.probes(63), 32768);
        y.push(1, "14>3,3>-");
        Check.due("probes: two keys", y.probes(63), 32768 + 16384);
        y.push(2, "13>3,12>3,15>0,14>3");
        Check.due("probes: two keys tell four", y.probes(63), 32768 + 16384);
        y.push(3, "15>1,7>2");
        Check.due("probes: a value beside a value", y.probes(63), 32768 + 16384);
        y.push(4, "15>1,7>3");
        Check.due("probes: three keys", y.probes(63), 32768 + 16384 + 128);
    }

    /** Maps that each differ from the empty one at one key need all these keys but none. */
    private static void probesNeedKeys() {
        Run x = new Run();
        int want = 0;
        int[] keys = {11, 4, 15, 8, 1};
        for (int map = 0; map < 5; map++) {
            x.push(map, keys[map] + ">" + keys[map]);
            want |= 1 << keys[map];
            Check.due("probes: " + (map + 1) + " keys", x.probes(63), want);
        }
        Check.due("probes: without the empty map one key less, the greatest one", x.probes(31), want - 32768);
        Run y = new Run();
        y.push(0, "0>1,2>1");
        y.push(1, "1>1,2>2");
        y.push(2, "0>1,1>1,2>3");
        Check.due("probes: one key instead of two lower ones", y.probes(15), 4);
        y.push(2, "2>2");
        Check.due("probes: two lower ones", y.probes(15), 3);
        y.push(2, "0>0,2>2,3>0");
        Check.due("probes: one lower key, of several", y.probes(15), 3);
        y.push(0, "3>5");
        y.push(1, "3>6");
        Check.due("probes: the fewest, not the least number", y.probes(15), 8);
    }
}
