/** Promises 1 to 6: a new object, and the acts on layers. */
final class LayerSentences extends Sentences {
    private static final String NEW = "Promise 1: A new object";
    private static final String PUSH = "Promise 2: push";
    private static final String POP = "Promise 3: pop";
    private static final String TURN = "Promise 4: turn";
    private static final String LIFT = "Promise 5: lift";
    private static final String SET = "Promise 6: setEntry";

    @Sentence(of = NEW, says = "Creates six empty maps.")
    static void sixEmptyMaps() {
        Run old = new Run();
        filled(old);
        for (int map = 0; map < 6; map++) {
            Run x = new Run();
            due("no layer", x.map(map, 0), 0);
            due("all are holes", x.map(map, 2), ALL_KEYS);
            due("no value", x.map(map, 3), 0);
            for (int key = 0; key < 16; key++) {
                due("a hole", x.get(map, key), NONE);
                due("no layer that tells", x.tells(map, key), NONE);
            }
        }
        Run x = new Run();
        due("no seventh map", x.map(6, 0), UNKNOWN);
        due("all are the same", x.count(4), 5);
        due("no layer", x.count(1), 0);
        due("no entry", x.count(2), 0);
    }

    // ---- push

    @Sentence(of = PUSH, says = "Puts the layer of the text, which stays, on top of a map.")
    static void pushLeavesTheText() {
        Run x = new Run();
        x.push(0, "0>1,15>-");
        due("the text stays", x.count(6), 8);
        due("it can be pushed again", x.push(1), 1);
        due("its entries", x.entry(1, 0, 0) * 100 + x.entry(1, 0, 15), 100 + NOWHERE);
        x.push(0, "0>2");
        due("on top", x.tells(0, 0), 1);
        due("on top", x.get(0, 0), 2);
        due("what was there stays below", x.entry(0, 0, 0), 1);
        x.write("0>16");
        x.push(0);
        due("a text with a fault stays too", x.count(6), 4);
        due("a text with a fault stays too", x.push(0), fault(3));
    }

    @Sentence(of = PUSH, says = "This is an act.")
    static void pushIsAnAct() {
        Calls text = x -> {
            withRoom(x);
            x.write("0>15,15>-,1>9");
        };
        recorded("push on a pile", 2, text, x -> x.push(1));
        recorded("push on no pile", 1, text, x -> x.push(3));
        recorded("push on three layers", 4, text, x -> x.push(0));
    }

    @Sentence(of = PUSH, says = "- `map`: 0 to 5")
    static void pushOnTheFirstAndTheLastMap() {
        for (int map = 0; map < 6; map++) {
            Run x = new Run();
            due("push", x.push(map, "0>1"), 1);
            for (int other = 0; other < 6; other++) {
                due("layers of " + other, x.map(other, 0), other == map ? 1 : 0);
            }
        }
    }

    @Sentence(of = PUSH, says = "Returns how many layers the map has then;")
    static void pushTellsTheLayers() {
        Run x = new Run();
        x.write("0>1");
        for (int layers = 1; layers <= 4; layers++) {
            due("layers of F", x.push(5), layers);
            due("layers of A, not of all maps", x.push(0), layers);
        }
        x.pop(5);
        due("again the fourth one", x.push(5), 4);
    }

    @Sentence(of = PUSH, says = "UNKNOWN;")
    static void pushOnNoMap() {
        for (int map : NO_MAPS) {
            refused("push(" + map + ")", UNKNOWN, x -> {
                filled(x);
                x.write("0>1");
            }, x -> x.push(map));
        }
    }

    @Sentence(of = PUSH, says = "-100 minus the fault of the text, read as a layer, if it has one (which is an error);")
    static void pushOfAFault() {
        String[] texts = {"", "?", "0", "0>", "0>1,", "16>0", "0>1,15>-,7>99", "A=B", "0>1,".repeat(15)};
        int[] faults = {0, 0, 1, 2, 4, 1, 12, 0, 60};
        for (int i = 0; i < texts.length; i++) {
            String text = texts[i];
            refused("push of " + text, fault(faults[i]), x -> {
                filled(x);
                x.write(text);
            }, x -> x.push(1));
        }
    }

    @Sentence(of = PUSH, says = "FULL if it has 4.")
    static void pushOnFourLayers() {
        Calls before = x -> {
            filled(x);
            x.push(0, "0>1");
        };
        due("four layers", before.onNew().map(0, 0), 4);
        refused("push on A", FULL, before, x -> x.push(0));
        refused("push on F", FULL, before, x -> x.push(5));
        due("a map with one has room", before.onNew().push(1), 2);
        Calls off = before.then(x -> x.turn(5, 3, false));
        refused("push on four layers of which one is off", FULL, off, x -> x.push(5));
    }

    // ---- pop

    @Sentence(of = POP, says = "Takes the uppermost layer off.")
    static void popTakesTheUppermostLayer() {
        Run x = new Run();
        x.push(0, "0>1,1>1");
        x.push(0, "0>2");
        x.push(0, "0>3,1>3,2>3");
        x.turn(0, 2, false);
        due("it is off, but the uppermost", x.pop(0), 3);
        due("two are left", x.map(0, 0), 2);
        due("the one below tells", x.get(0, 0), 2);
        due("pop", x.pop(0), 1);
        due("the lowest one tells", x.get(0, 0), 1);
        due("pop of the last one", x.pop(0), 2);
        due("no layer", x.map(0, 0), 0);
        due("a hole", x.get(0, 0), NONE);
    }

    @Sentence(of = POP, says = "This is an act.")
    static void popIsAnAct() {
        recorded("pop of three", 2, Sentences::withRoom, x -> x.pop(0));
        recorded("pop of the only one", 2, Sentences::withRoom, x -> x.pop(1));
        recorded("pop of four", 2, Sentences::withRoom, x -> x.pop(5));
        recorded("pop of one that is off", 2, y -> {
            withRoom(y);
            y.turn(0, 2, false);
        }, x -> x.pop(0));
    }

    @Sentence(of = POP, says = "- `map`: 0 to 5")
    static void popOfTheFirstAndTheLastMap() {
        for (int map = 0; map < 6; map++) {
            Run x = new Run();
            x.write("0>1");
            for (int other = 0; other < 6; other++) {
                x.push(other);
            }
            due("pop", x.pop(map), 1);
            for (int other = 0; other < 6; other++) {
                due("layers of " + other, x.map(other, 0), other == map ? 0 : 1);
            }
        }
    }

    @Sentence(of = POP, says = "Returns how many entries it has;")
    static void popTellsTheEntries() {
        Run x = new Run();
        x.assign("A=A^0");
        due("16 entries", x.pop(0), 16);
        x.assign("A=B");
        due("none", x.pop(0), 0);
        x.push(0, "0>-,15>-,7>7");
        due("entries that lead nowhere, too", x.pop(0), 3);
        x.push(0, "0>1,0>2");
        due("one for each key", x.pop(0), 1);
        x.push(0, "3>3,4>4");
        x.push(0, "3>3");
        due("only of the layer that is taken off", x.pop(0), 1);
    }

    @Sentence(of = POP, says = "UNKNOWN;")
    static void popOfNoMap() {
        for (int map : NO_MAPS) {
            refused("pop(" + map + ")", UNKNOWN, Sentences::filled, x -> x.pop(map));
        }
    }

    @Sentence(of = POP, says = "NONE if the map has no layer.")
    static void popOfNoLayer() {
        refused("pop(3)", NONE, Sentences::filled, x -> x.pop(3));
        refused("pop(0) of a new object", NONE, x -> x.clearText(), x -> x.pop(0));
        Calls popped = x -> {
            x.push(2, "0>1");
            x.pop(2);
        };
        refused("pop(2) of a map that had one", NONE, popped, x -> x.pop(2));
    }

    // ---- turn

    @Sentence(of = TURN, says = "Switches a layer on or off.")
    static void turnSwitchesOneLayer() {
        for (int layer = 0; layer < 4; layer++) {
            Run x = new Run();
            x.write("0>1");
            for (int i = 0; i < 4; i++) {
                x.push(5);
            }
            x.turn(5, layer, false);
            for (int other = 0; other < 4; other++) {
                due("off is only " + layer, x.layer(5, other, 1), other == layer ? 0 : 1);
            }
            due("its entries stay", x.layer(5, layer, 0), 1);
            x.turn(5, layer, true);
            due("all are on", x.map(5, 1), 4);
        }
    }

    @Sentence(of = TURN, says = "This is an act.")
    static void turnIsAnAct() {
        recorded("off", 3, Sentences::withRoom, x -> x.turn(0, 0, false));
        recorded("on", 2, Sentences::withRoom, x -> x.turn(0, 1, true));
        recorded("no value becomes another", 0, Sentences::withRoom, x -> x.turn(5, 0, false));
    }

    @Sentence(of = TURN, says = "- `map`: 0 to 5")
    static void turnInTheFirstAndTheLastMap() {
        Run x = new Run();
        for (int map = 0; map < 6; map++) {
            x.push(map, "0>1");
            due("off", x.turn(map, 0, false), 1);
            due("a hole", x.get(map, 0), NONE);
        }
    }

    @Sentence(of = TURN, says = "- `layer`: a layer of it")
    static void turnOfTheLowestAndTheUppermostLayer() {
        Run x = new Run();
        x.push(2, "0>1,1>1");
        x.push(2, "1>2");
        x.push(2, "2>3");
        x.push(2, "0>4");
        due("the uppermost of four", x.turn(2, 3, false), 1);
        due("the lowest one", x.turn(2, 0, false), 1);
        due("the others", x.turn(2, 1, false) * 10 + x.turn(2, 2, false), 11);
        due("all are off", x.map(2, 1), 0);
    }

    @Sentence(of = TURN, says = "- `on`: whether it is on then")
    static void turnOnAndOff() {
        Run x = new Run();
        x.push(0, "0>1");
        x.turn(0, 0, false);
        due("off", x.layer(0, 0, 1), 0);
        x.turn(0, 0, true);
        due("on", x.layer(0, 0, 1), 1);
        due("on already", x.turn(0, 0, true), NONE);
        x.turn(0, 0, false);
        due("off already", x.turn(0, 0, false), NONE);
        due("off", x.layer(0, 0, 1), 0);
    }

    @Sentence(of = TURN, says = "Returns how many values of keys become others by that (holes too);")
    static void turnTellsTheValuesThatBecomeOthers() {
        Run x = new Run();
        x.push(0, "0>1,1>2,2>3,3>-,4>-");
        x.push(0, "0>1,1>3,2>-,3>4,4>-,5>-,15>0");
        due("1 to 2, a hole to 3, 4 to a hole, 0 to a hole", x.turn(0, 1, false), 4);
        due("and back", x.turn(0, 1, true), 4);
        due("a layer below all of whose values are told above", x.turn(0, 0, false), 0);
        due("all values to holes", x.turn(0, 1, false), 4);
        Run y = new Run();
        y.assign("B=B^0");
        due("all 16", y.turn(1, 0, false), 16);
        due("all 16, out of holes", y.turn(1, 0, true), 16);
    }

    private static void unknownLayers(String what, Call[] calls) {
        for (int i = 0; i < calls.length; i++) {
            refused(what + ", number " + i, UNKNOWN, Sentences::filled, calls[i]);
        }
    }

    @Sentence(of = TURN, says = "UNKNOWN (map or layer);")
    static void turnOfNoLayer() {
        for (int map : NO_MAPS) {
            unknownLayers("turn in " + map, new Call[] {x -> x.turn(map, 0, false), x -> x.turn(map, 0, true)});
        }
        for (int layer : NO_LAYERS) {
            unknownLayers("turn of " + layer, new Call[] {x -> x.turn(0, layer, false), x -> x.turn(0, layer, true)});
        }
        unknownLayers("turn beside what there is", new Call[] {x -> x.turn(5, 4, false), x -> x.turn(1, 1, true),
            x -> x.turn(3, 0, true), x -> x.turn(3, 0, false)});
    }

    @Sentence(of = TURN, says = "NONE if it is so already.")
    static void turnOfWhatIsSoAlready() {
        refused("on", NONE, Sentences::filled, x -> x.turn(0, 0, true));
        refused("on", NONE, Sentences::filled, x -> x.turn(5, 3, true));
        refused("off", NONE, Sentences::filled, x -> x.turn(0, 1, false));
    }

    // ---- lift

    /** Four layers that lead 0 to 0, 1, 2 and 3. */
    private static void fourLayers(Run x) {
        for (int layer = 0; layer < 4; layer++) {
            x.push(4, "0>" + layer);
        }
    }

    @Sentence(of = LIFT, says = "Puts a layer elsewhere in its pile.")
    static void liftMovesOneLayerAndKeepsTheOrderOfTheOthers() {
        for (int layer = 0; layer < 4; layer++) {
            for (int place = 0; place < 4; place++) {
                Run x = new Run();
                fourLayers(x);
                x.turn(4, layer, false);
                x.lift(4, layer, place);
                java.util.List<Integer> order = new java.util.ArrayList<>(java.util.List.of(0, 1, 2, 3));
                order.add(place, order.remove(layer));
                for (int at = 0; at < 4; at++) {
                    String what = layer + " to " + place + ", at " + at;
                    due("the layer: " + what, x.entry(4, at, 0), order.get(at));
                    due("off is the one that was: " + what, x.layer(4, at, 1), order.get(at) == layer ? 0 : 1);
                }
            }
        }
    }

    @Sentence(of = LIFT, says = "This is an act.")
    static void liftIsAnAct() {
        recorded("up", 1, Sentences::withRoom, x -> x.lift(0, 0, 2));
        recorded("down", 1, Sentences::withRoom, x -> x.lift(0, 2, 0));
        recorded("no value becomes another", 0, Sentences::withRoom, x -> x.lift(5, 0, 3));
    }

    @Sentence(of = LIFT, says = "- `map`: 0 to 5")
    static void liftInTheFirstAndTheLastMap() {
        Run x = new Run();
        for (int map = 0; map < 6; map++) {
            x.push(map, "0>1");
            x.push(map, "0>2");
            due("lift", x.lift(map, 0, 1), 1);
            due("it tells", x.get(map, 0), 1);
        }
    }

    @Sentence(of = LIFT, says = "- `layer`: a layer of it")
    static void liftOfTheLowestAndTheUppermostLayer() {
        Run x = new Run();
        fourLayers(x);
        due("the lowest one", x.lift(4, 0, 3), 1);
        due("it tells", x.get(4, 0), 0);
        due("the uppermost one", x.lift(4, 3, 0), 1);
        due("it tells no more", x.get(4, 0), 3);
        due("one between", x.lift(4, 2, 3), 1);
        due("it tells", x.get(4, 0), 2);
    }

    @Sentence(of = LIFT, says = "- `place`: the place that it has then, from 0")
    static void liftToTheLowestAndTheUppermostPlace() {
        for (int place = 0; place < 4; place++) {
            Run x = new Run();
            fourLayers(x);
            int layer = place == 1 ? 2 : 1;
            x.lift(4, layer, place);
            due("at the place " + place, x.entry(4, place, 0), layer);
        }
    }

    @Sentence(of = LIFT, says = "Returns how many values of keys become others by that;")
    static void liftTellsTheValuesThatBecomeOthers() {
        Run x = new Run();
        x.push(0, "0>1,1>2,2>3,3>-,4>-,15>1");
        x.push(0, "0>1,1>3,2>-,3>4,4>-,5>5,15>2");
        due("the values of 1, 2, 3 and 15", x.lift(0, 0, 1), 4);
        due("and back", x.lift(0, 0, 1), 4);
        x.turn(0, 0, false);
        due("none, by one that is off", x.lift(0, 0, 1), 0);
        x.turn(0, 1, true);
        due("the same four", x.lift(0, 1, 0), 4);
        Run y = new Run();
        y.push(0, "0>1");
        y.push(0, "1>1");
        due("none, of layers without a common key", y.lift(0, 0, 1), 0);
    }

    @Sentence(of = LIFT, says = "UNKNOWN (map or layer);")
    static void liftOfNoLayer() {
        for (int map : NO_MAPS) {
            unknownLayers("lift in " + map, new Call[] {x -> x.lift(map, 0, 1)});
        }
        for (int layer : NO_LAYERS) {
            unknownLayers("lift of " + layer, new Call[] {x -> x.lift(0, layer, 0), x -> x.lift(0, layer, layer)});
        }
        unknownLayers("lift beside what there is", new Call[] {x -> x.lift(5, 4, 0), x -> x.lift(1, 1, 0),
            x -> x.lift(3, 0, 0)});
    }

    @Sentence(of = LIFT, says = "BAD_VALUE (place: there are not so many layers);")
    static void liftToNoPlace() {
        for (int place : NO_LAYERS) {
            refused("lift to " + place, BAD_VALUE, Sentences::filled, x -> x.lift(0, 0, place));
        }
        refused("the only one by one", BAD_VALUE, Sentences::filled, x -> x.lift(1, 0, 1));
        refused("of four", BAD_VALUE, Sentences::filled, x -> x.lift(5, 3, 4));
        due("the uppermost place", filledOnNew().lift(0, 0, 2), 1);
    }

    private static Run filledOnNew() {
        Calls before = Sentences::filled;
        return before.onNew();
    }

    @Sentence(of = LIFT, says = "NONE if it is there already.")
    static void liftToWhereItIs() {
        for (int layer = 0; layer < 3; layer++) {
            int at = layer;
            refused("lift of " + layer, NONE, Sentences::filled, x -> x.lift(0, at, at));
        }
        refused("of four the uppermost one", NONE, Sentences::filled, x -> x.lift(5, 3, 3));
        refused("the only one", NONE, Sentences::filled, x -> x.lift(1, 0, 0));
    }

    // ---- setEntry

    @Sentence(of = SET, says = "Sets an entry of a layer.")
    static void setEntrySetsOneEntry() {
        Run x = new Run();
        x.push(0, "0>1,15>2");
        x.push(0, "0>3");
        x.setEntry(0, 0, 15, 9);
        for (int key = 0; key < 16; key++) {
            due("of the layer", x.entry(0, 0, key), key == 0 ? 1 : key == 15 ? 9 : ABSENT);
            due("of the other one", x.entry(0, 1, key), key == 0 ? 3 : ABSENT);
        }
        due("it tells", x.get(0, 15), 9);
        x.setEntry(0, 0, 0, 5);
        due("it is shadowed", x.get(0, 0), 3);
        x.turn(0, 1, false);
        due("it tells", x.get(0, 0), 5);
        x.setEntry(0, 1, 0, 6);
        due("it is set though its layer is off", x.entry(0, 1, 0) * 10 + x.get(0, 0), 65);
    }

    @Sentence(of = SET, says = "This is an act.")
    static void setEntryIsAnAct() {
        recorded("another value", 1, Sentences::withRoom, x -> x.setEntry(0, 0, 0, 15));
        recorded("nowhere", 1, Sentences::withRoom, x -> x.setEntry(0, 0, 0, NOWHERE));
        recorded("no entry", NOWHERE, Sentences::withRoom, x -> x.setEntry(0, 2, 4, ABSENT));
        recorded("where it is shadowed", 2, Sentences::withRoom, x -> x.setEntry(0, 0, 1, 3));
        recorded("where it is off", ABSENT, Sentences::withRoom, x -> x.setEntry(0, 1, 15, 3));
    }

    @Sentence(of = SET, says = "- `map`: 0 to 5")
    static void setEntryInTheFirstAndTheLastMap() {
        Run x = new Run();
        for (int map = 0; map < 6; map++) {
            x.push(map, "0>1");
            due("set", x.setEntry(map, 0, 0, 2), 1);
            due("it tells", x.get(map, 0), 2);
        }
    }

    @Sentence(of = SET, says = "- `layer`: a layer of it")
    static void setEntryInTheLowestAndTheUppermostLayer() {
        Run x = new Run();
        fourLayers(x);
        for (int layer = 0; layer < 4; layer++) {
            due("set in " + layer, x.setEntry(4, layer, 0, 9 + layer), layer);
            due("it is set", x.entry(4, layer, 0), 9 + layer);
        }
    }

    @Sentence(of = SET, says = "- `key`: a key")
    static void setEntryOfTheFirstAndTheLastKey() {
        Run x = new Run();
        x.push(0, "0>1");
        for (int key = 0; key < 16; key++) {
            due("set " + key, x.setEntry(0, 0, key, 15 - key), key == 0 ? 1 : ABSENT);
            due("it tells", x.get(0, key), 15 - key);
        }
    }

    @Sentence(of = SET, says = "- `value`: a key, 16 for an entry that leads nowhere, or 17 for no entry")
    static void setEntryToAKeyNowhereOrNone() {
        Run x = new Run();
        x.push(0, "5>1");
        x.push(0, "5>2");
        for (int value = 0; value <= 15; value++) {
            x.setEntry(0, 1, 5, value);
            due("leads to " + value, x.get(0, 5), value);
        }
        x.setEntry(0, 1, 5, 16);
        due("nowhere is a hole", x.get(0, 5), NONE);
        due("nowhere tells", x.tells(0, 5), 1);
        due("nowhere is an entry", x.layer(0, 1, 0), 1);
        x.setEntry(0, 1, 5, 17);
        due("none lets through", x.get(0, 5), 1);
        due("none does not tell", x.tells(0, 5), 0);
        due("none is no entry", x.layer(0, 1, 0), 0);
    }

    @Sentence(of = SET, says = "Returns what it was before (likewise);")
    static void setEntryTellsWhatItWas() {
        Run x = new Run();
        x.push(0, "0>1");
        int before = 1;
        for (int value : new int[] {0, 15, 16, 17, 16, 0, 17, 15, 1}) {
            due("before it was " + value, x.setEntry(0, 0, 0, value), before);
            before = value;
        }
    }

    @Sentence(of = SET, says = "UNKNOWN (map, layer or key);")
    static void setEntryOfNoKey() {
        for (int map : NO_MAPS) {
            unknownLayers("setEntry in " + map, new Call[] {x -> x.setEntry(map, 0, 0, 0)});
        }
        for (int layer : NO_LAYERS) {
            unknownLayers("setEntry in the layer " + layer, new Call[] {x -> x.setEntry(0, layer, 0, 0)});
        }
        for (int key : NO_KEYS) {
            unknownLayers("setEntry of " + key, new Call[] {x -> x.setEntry(0, 0, key, 0)});
        }
        unknownLayers("setEntry beside what there is", new Call[] {x -> x.setEntry(5, 4, 0, 0),
            x -> x.setEntry(1, 1, 0, 0), x -> x.setEntry(3, 0, 0, ABSENT)});
    }

    @Sentence(of = SET, says = "BAD_VALUE;")
    static void setEntryToNoValue() {
        for (int value : new int[] {-1, 18, 19, Integer.MIN_VALUE, Integer.MAX_VALUE, 256, 65536}) {
            refused("to " + value, BAD_VALUE, Sentences::filled, x -> x.setEntry(0, 0, 0, value));
        }
    }

    @Sentence(of = SET, says = "NONE if it is so already.")
    static void setEntryOfWhatIsSoAlready() {
        refused("a key", NONE, Sentences::filled, x -> x.setEntry(0, 0, 0, 1));
        refused("a key of a layer that is off", NONE, Sentences::filled, x -> x.setEntry(0, 1, 14, 15));
        refused("nowhere", NONE, Sentences::filled, x -> x.setEntry(0, 2, 4, NOWHERE));
        refused("none", NONE, Sentences::filled, x -> x.setEntry(0, 0, 9, ABSENT));
    }
}
