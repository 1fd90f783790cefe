/** The parts of "Terms" about the history and about errors. */
final class HistoryTermSentences extends Sentences {
    private static final String HISTORY = "Terms: HISTORY";
    private static final String ERRORS = "Terms: ERRORS";

    // ---- history

    @Sentence(of = HISTORY, says = "A history of at most 4 states is kept;")
    static void atMost4States() {
        Run x = new Run();
        due("none at first", x.count(5), 0);
        for (int act = 1; act <= 7; act++) {
            x.hide(0, 1);
            due("states after " + act + " acts", x.count(5), Math.min(act, 4));
        }
        for (int left = 3; left >= 0; left--) {
            due("one is undone", x.undo(), left);
            due("states that are left", x.count(5), left);
        }
        due("no fifth one", x.undo(), NONE);
    }

    @Sentence(of = HISTORY, says = "when one more is recorded, the oldest one is dropped;")
    static void theOldestStateIsDropped() {
        Run x = new Run();
        x.push(0, "0>0");
        for (int value = 1; value <= 5; value++) {
            x.setEntry(0, 0, 0, value);
        }
        for (int value = 4; value >= 1; value--) {
            x.undo();
            due("back by one", x.get(0, 0), value);
        }
        due("the state with 0 is dropped", x.undo(), NONE);
        due("and does not come back", x.get(0, 0), 1);
        x.setEntry(0, 0, 0, 9);
        due("recorded anew", x.undo(), 0);
        due("back by one", x.get(0, 0), 1);
    }

    @Sentence(of = HISTORY, says = "undo() removes and restores the latest one.")
    static void undoRemovesAndRestoresTheLatestState() {
        Run x = new Run();
        x.setRule(1);
        x.push(0, "0>1");
        x.setRule(2);
        due("undo", x.undo(), 2);
        due("the rule before the last act", x.count(0), 1);
        due("the layer stays", x.count(1), 1);
        due("undo", x.undo(), 1);
        due("no layer", x.count(1), 0);
        due("the rule stays", x.count(0), 1);
        x.push(3, "0>1");
        due("an act behind an undo takes its place", x.undo(), 1);
        due("no layer", x.count(1), 0);
        due("undo", x.undo(), 0);
        due("the rule at first", x.count(0), 0);
    }

    @Sentence(of = HISTORY, says = "Each call of a method that is described as an act, and returns no error and not NONE, "
        + "records the state that was before it.")
    static void actsAreRecordedAndNothingElse() {
        Calls base = x -> {
            x.push(0, "0>1,1>-");
            x.push(0, "0>1");
            x.keep();
            x.write("C=A");
        };
        Call[] acts = {x -> x.push(1, "5>5"), x -> x.pop(0), x -> x.turn(0, 0, false), x -> x.lift(0, 0, 1),
            x -> x.setEntry(0, 0, 1, ABSENT), x -> x.flatten(0), x -> x.assign(), x -> x.setRule(2),
            x -> x.hide(3, 8), Run::restore};
        for (int i = 0; i < acts.length; i++) {
            Run x = base.onNew();
            due("act " + i + " answers no error", acts[i].on(x) >= 0);
            due("act " + i + " is recorded", x.count(5), 3);
        }
        Call[] others = {x -> x.type('A'), Run::clearText, Run::keep, x -> x.get(0, 0), x -> x.tells(0, 0),
            x -> x.map(0, 7), x -> x.layer(0, 0, 2), x -> x.entry(0, 0, 0), x -> x.follow(0, 0, 0),
            x -> x.after(0, 0, 1), x -> x.gives(0), x -> x.differ(0, 1), x -> x.probes(63), x -> x.count(5)};
        for (int i = 0; i < others.length; i++) {
            Run x = base.onNew();
            due("no act, number " + i + ", answers no error", others[i].on(x) >= 0);
            due("no act, number " + i + ", is not recorded", x.count(5), 2);
        }
        Call[] refusals = {x -> x.push(0, "0>"), x -> x.push(6, "0>1"), x -> x.pop(5), x -> x.turn(0, 0, true),
            x -> x.turn(0, 2, true), x -> x.lift(0, 0, 0), x -> x.lift(0, 0, 2), x -> x.setEntry(0, 0, 0, 1),
            x -> x.setEntry(0, 0, 0, 18), x -> x.flatten(5), x -> x.assign("C="), x -> x.setRule(0),
            x -> x.setRule(3), x -> x.hide(0, 2), x -> x.ask(0), x -> x.ask(16)};
        for (int i = 0; i < refusals.length; i++) {
            Run x = base.onNew();
            due("refusal " + i + " answers an error or NONE", refusals[i].on(x) < 0);
            due("refusal " + i + " is not recorded", x.count(5), 2);
        }
    }

    @Sentence(of = HISTORY, says = "There is one snapshot, empty at first.")
    static void oneSnapshotEmptyAtFirst() {
        Run x = new Run();
        due("none at first", x.restore(), NONE);
        x.push(0, "0>1");
        due("none after an act", x.restore(), NONE);
        due("the first one", x.keep(), 1);
        x.push(0);
        due("the second one", x.keep(), 2);
        x.pop(0);
        x.pop(0);
        due("of the two the second one", x.restore(), 2);
        due("and it again", x.restore(), 2);
        due("a new object has none", new Run().restore(), NONE);
    }

    @Sentence(of = HISTORY, says = "A state is everything")
    static void aStateIsEverything() {
        Calls base = x -> {
            withRoom(x);
            x.setEntry(0, 0, 15, 13);
            x.keep();
        };
        Call[] changes = {x -> x.turn(0, 1, true), x -> x.turn(0, 0, false), x -> x.setEntry(0, 0, 0, 15),
            x -> x.setEntry(0, 1, 15, 3), x -> x.setEntry(5, 0, 3, NOWHERE), x -> x.setRule(2), x -> x.ask(0),
            x -> x.ask(15), x -> x.pop(5), x -> x.pop(0), x -> x.flatten(0), x -> x.lift(0, 1, 0), Run::assign,
            x -> x.hide(0, 5), x -> x.hide(2, 7), x -> x.hide(5, 63), x -> x.push(1, "0>-,15>-")};
        String before = Whole.state(base);
        String twiceRestored = Whole.state(base.then(Run::restore).then(Run::restore));
        for (int i = 0; i < changes.length; i++) {
            Call change = changes[i];
            Calls changed = base.then(x -> {
                due("a change is no error", change.on(x) >= 0);
                x.write("D=A~/B");
            });
            due("it is a change", !Whole.state(changed).equals(before));
            due("undo after change " + i, Whole.state(changed.then(Run::undo)).equals(before));
            due("restore after change " + i, Whole.state(changed.then(Run::restore)).equals(twiceRestored));
        }
    }

    @Sentence(of = HISTORY, says = "but the text,")
    static void theTextIsNotOfTheState() {
        Run x = new Run();
        x.push(0, "0>1");
        x.keep();
        x.write("B=A^0");
        due("undo", x.undo(), 0);
        due("undo leaves the text", x.count(6), 5);
        due("undo leaves the text", x.gives(7), 7);
        x.clearText();
        due("restore", x.restore(), 1);
        due("restore leaves the text empty", x.count(6), 0);
        x.write("B=A");
        x.restore();
        due("restore leaves the text", x.gives(0), 1);
    }

    @Sentence(of = HISTORY, says = "the history and")
    static void theHistoryIsNotOfTheState() {
        Run x = new Run();
        x.setRule(1);
        x.setRule(2);
        x.keep();
        x.undo();
        x.undo();
        due("the history is empty", x.count(5), 0);
        x.restore();
        due("restore brings back no history, but is recorded", x.count(5), 1);
        due("undo of restore", x.undo(), 0);
        due("the rule at first", x.count(0), 0);
        x.keep();
        x.setRule(1);
        x.setRule(2);
        x.restore();
        due("restore of an early state leaves the history", x.count(5), 3);
        due("undo", x.undo() * 10 + x.count(0), 22);
        due("undo", x.undo() * 10 + x.count(0), 11);
    }

    @Sentence(of = HISTORY, says = "and the snapshot.")
    static void theSnapshotIsNotOfTheState() {
        Run x = new Run();
        x.push(0, "0>1");
        x.keep();
        x.push(0);
        x.keep();
        due("undo", x.undo(), 1);
        due("undo leaves the snapshot", x.restore(), 2);
        x.undo();
        x.undo();
        due("no layer", x.count(1), 0);
        due("undo of all leaves the snapshot", x.restore(), 2);
        x.setEntry(0, 1, 0, 9);
        due("restore leaves the snapshot", x.restore() * 10 + x.get(0, 0), 21);
    }

    // ---- errors

    private static void constant(String name, int value) throws Exception {
        due(name, PileMaps.class.getField(name).getInt(null), value);
    }

    @Sentence(of = ERRORS, says = "`UNKNOWN = -1`: There is no such map, layer or key.")
    static void unknown() throws Exception {
        constant("UNKNOWN", -1);
        Run x = new Run();
        x.push(0, "0>1");
        due("no such map", x.map(6, 0), -1);
        due("no such layer", x.layer(0, 1, 0), -1);
        due("no such key", x.get(0, 16), -1);
    }

    @Sentence(of = ERRORS, says = "`BAD_VALUE = -2`: Another argument is out of range.")
    static void badValue() throws Exception {
        constant("BAD_VALUE", -2);
        Run x = new Run();
        x.push(0, "0>1");
        due("what", x.map(0, 9), -2);
        due("steps", x.after(0, 0, 1000001), -2);
        due("maps", x.probes(64), -2);
        due("value", x.setEntry(0, 0, 0, 18), -2);
    }

    @Sentence(of = ERRORS, says = "`FULL = -3`: There is no more room.")
    static void full() throws Exception {
        constant("FULL", -3);
        Run x = new Run();
        x.write("0>1");
        for (int layers = 0; layers < 4; layers++) {
            x.push(0);
        }
        due("no room for a layer", x.push(0), -3);
        x.write("0".repeat(60));
        due("no room for a character", x.type('0'), -3);
    }

    @Sentence(of = ERRORS, says = "`NOT_POSSIBLE = -4`: This is not possible.")
    static void notPossible() throws Exception {
        constant("NOT_POSSIBLE", -4);
        Run x = new Run();
        due("nothing is hidden", x.ask(0), -4);
        due("nothing is hidden", x.hidden(0), -4);
        due("nothing is hidden", x.split(0, 0), -4);
    }

    @Sentence(of = ERRORS, says = "`NONE = -5`: There is no such thing; not an error.")
    static void none() throws Exception {
        constant("NONE", -5);
        Run x = new Run();
        due("no value", x.get(0, 0), -5);
        due("no layer that tells", x.tells(0, 0), -5);
        due("no layer to be taken off", x.pop(0), -5);
        due("no state", x.undo(), -5);
        due("no snapshot", x.restore(), -5);
    }

    @Sentence(of = ERRORS, says = "Where several errors can apply, the order of the @return line is the order of the checks.")
    static void theOrderOfTheChecks() {
        Run x = new Run();
        x.write("0>1");
        for (int layers = 0; layers < 4; layers++) {
            x.push(0);
        }
        x.write("0>");
        due("push: the map before the fault", x.push(6), UNKNOWN);
        due("push: the fault before the room", x.push(0), fault(2));
        due("lift: the map before the place", x.lift(6, 0, 4), UNKNOWN);
        due("lift: the layer before the place", x.lift(0, 4, 4), UNKNOWN);
        due("setEntry: the map before the value", x.setEntry(-1, 0, 0, 18), UNKNOWN);
        due("setEntry: the layer before the value", x.setEntry(0, 4, 0, 18), UNKNOWN);
        due("setEntry: the key before the value", x.setEntry(0, 0, 16, 18), UNKNOWN);
        due("hide: the map before the suspects", x.hide(6, 0), UNKNOWN);
        due("hide: the map before the suspects", x.hide(6, 64), UNKNOWN);
        due("ask: the key before the hidden map", x.ask(16), UNKNOWN);
        due("map: the map before what", x.map(6, 9), UNKNOWN);
        due("layer: the map before what", x.layer(6, 0, 4), UNKNOWN);
        due("layer: the layer before what", x.layer(0, 4, 4), UNKNOWN);
        due("follow: the map before what", x.follow(6, 0, 3), UNKNOWN);
        due("follow: the key before what", x.follow(0, 16, 3), UNKNOWN);
        due("after: the map before the steps", x.after(6, 0, -1), UNKNOWN);
        due("after: the key before the steps", x.after(0, 16, 1000001), UNKNOWN);
        due("gives: the key before the fault", x.gives(16), UNKNOWN);
        due("hidden: what before the hidden map", x.hidden(6), BAD_VALUE);
        due("split: the key before what", x.split(16, 2), UNKNOWN);
        due("split: the key before the hidden map", x.split(16, 0), UNKNOWN);
        due("split: what before the hidden map", x.split(0, 2), BAD_VALUE);
    }

    @Sentence(of = ERRORS, says = "NONE is no error; it is returned only if no error applies.")
    static void noneOnlyIfNoErrorApplies() {
        Run x = new Run();
        due("pop: an unknown map has no layer", x.pop(6), UNKNOWN);
        due("flatten: an unknown map has no layer", x.flatten(6), UNKNOWN);
        due("get: an unknown key has no value", x.get(0, 16), UNKNOWN);
        due("tells: an unknown map tells nothing", x.tells(6, 0), UNKNOWN);
        x.push(0, "0>1");
        due("turn: an unknown layer is not on", x.turn(0, 1, false), UNKNOWN);
        due("lift: an unknown layer is at its place", x.lift(0, 1, 1), UNKNOWN);
        due("lift: an unknown layer, below", x.lift(0, -1, -1), UNKNOWN);
        due("setEntry: an unknown layer has no entry", x.setEntry(0, 1, 0, ABSENT), UNKNOWN);
        due("follow: no hole is met, but there is no such thing", x.follow(0, 0, 3), BAD_VALUE);
        due("after: a hole, but no such number of steps", x.after(0, 5, -1), BAD_VALUE);
        due("after: a hole, but too many steps", x.after(0, 5, 1000001), BAD_VALUE);
        due("gives: a hole, but a fault", x.gives("A=B/", 5), fault(4));
        due("hidden: nothing is hidden", x.hidden(3), NOT_POSSIBLE);
        x.hide(0, 1);
        due("hidden: it is found, but there is no such thing", x.hidden(6), BAD_VALUE);
        due("hidden: it is found", x.hidden(3), NONE);
    }

    /** Each method that can refuse, refusing in each way; all of them on filled(), which ends with the text "D=A~/B". */
    private static final Call[] REFUSALS = {
        x -> x.push(6), x -> x.push(-1), x -> x.push(0), x -> x.push(5), x -> x.pop(6), x -> x.pop(3),
        x -> x.turn(6, 0, true), x -> x.turn(0, 3, true), x -> x.turn(0, 1, false), x -> x.turn(0, 0, true),
        x -> x.lift(6, 0, 0), x -> x.lift(0, 3, 0), x -> x.lift(0, 0, 3), x -> x.lift(0, 0, -1), x -> x.lift(0, 2, 2),
        x -> x.setEntry(6, 0, 0, 0), x -> x.setEntry(0, 3, 0, 0), x -> x.setEntry(0, 0, 16, 0),
        x -> x.setEntry(0, 0, 0, 18), x -> x.setEntry(0, 0, 0, -1), x -> x.setEntry(0, 0, 0, 1),
        x -> x.flatten(6), x -> x.flatten(3), x -> x.flatten(2), x -> x.setRule(3), x -> x.setRule(-1), x -> x.setRule(1),
        x -> x.hide(6, 63), x -> x.hide(0, 0), x -> x.hide(0, 64), x -> x.hide(0, 62), x -> x.ask(16), x -> x.ask(-1),
        x -> x.get(0, 16), x -> x.get(0, 9), x -> x.tells(0, 9), x -> x.map(0, 9), x -> x.layer(0, 0, 4),
        x -> x.entry(0, 3, 0), x -> x.follow(0, 0, 0), x -> x.follow(0, 9, 1), x -> x.after(0, 0, -1),
        x -> x.after(0, 9, 1), x -> x.gives(16), x -> x.gives(9), x -> x.differ(0, 6), x -> x.probes(64),
        x -> x.hidden(6), x -> x.split(0, 2), x -> x.split(16, 0), x -> x.count(7)};

    @Sentence(of = ERRORS, says = "A call that returns an error or NONE changes nothing.")
    static void errorsAndNoneChangeNothing() {
        for (int i = 0; i < REFUSALS.length; i++) {
            Call refusal = REFUSALS[i];
            String what = "refusal " + i;
            Check.nothingChanged(what, Sentences::filled, x -> due(what, refusal.on(x) < 0));
        }
        Calls faulty = x -> {
            filled(x);
            x.write("A=B{16}");
        };
        Check.nothingChanged("assign: fault", faulty, x -> due("assign", x.assign(), fault(5)));
        Check.nothingChanged("gives: fault", faulty, x -> due("gives", x.gives(0), fault(5)));
        Calls empty = x -> x.write("A=B^0" + "~".repeat(55));
        Check.nothingChanged("undo: no state", empty, x -> due("undo", x.undo(), NONE));
        Check.nothingChanged("restore: no snapshot", empty, x -> due("restore", x.restore(), NONE));
        Check.nothingChanged("ask: nothing hidden", empty, x -> due("ask", x.ask(0), NOT_POSSIBLE));
        Check.nothingChanged("type: full", empty, x -> due("type", x.type('='), FULL));
    }

    @Sentence(of = ERRORS, says = "Sets of keys and of maps are told as bits: 1 for the number 0, 2 for 1, 4 for 2, and so on.")
    static void setsAreToldAsBits() {
        for (int key = 0; key < 16; key++) {
            int bit = (int) Math.pow(2, key);
            Run x = new Run();
            x.push(0, key + ">" + key);
            due("all are holes but " + key, x.map(0, 2), 65535 - bit);
            due("values: " + key, x.map(0, 3), bit);
            due("their own values: " + key, x.map(0, 5), bit);
            due("on a cycle: " + key, x.map(0, 7), bit);
            due("different: " + key, x.differ(0, 1), bit);
            due("telling apart: " + key, x.probes(3), bit);
        }
        for (int map = 0; map < 6; map++) {
            int bit = (int) Math.pow(2, map);
            Run x = new Run();
            x.push(map, "3>3");
            due("the only suspect: " + map, x.hide(map, bit) * 100 + x.hidden(0), 100 + bit);
            due("no suspect: " + map, x.hide(map, 63 - bit), BAD_VALUE);
            x.hide(map, 63);
            x.ask(3);
            due("the only suspect that is left: " + map, x.hidden(0), bit);
            due("one map is not told apart: " + map, x.probes(bit), 0);
            due("all but one map: " + map, x.probes(63 - bit), 0);
            due("with this map: " + map, x.probes(63), 8);
        }
    }
}
