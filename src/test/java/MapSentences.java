/** Promises 17 to 21: what is told of a map, of a layer and of an entry. */
final class MapSentences extends Sentences {
    private static final String GET = "Promise 17: get";
    private static final String TELLS = "Promise 18: tells";
    private static final String MAP = "Promise 19: map";
    private static final String LAYER = "Promise 20: layer";
    private static final String ENTRY = "Promise 21: entry";

    /** Each map leads the key 0 to its own number, and the key 15 to 15 less its number. */
    private static Run numbered() {
        Run x = new Run();
        for (int map = 0; map < 6; map++) {
            x.push(map, "0>" + map + ",15>" + (15 - map));
        }
        return x;
    }

    /** A map whose only layer has these entries. */
    private static Run one(String layer) {
        Run x = new Run();
        x.push(0, layer);
        return x;
    }

    private static void unknown(String what, Call... calls) {
        for (int i = 0; i < calls.length; i++) {
            refused(what + ", number " + i, UNKNOWN, Sentences::filled, calls[i]);
        }
    }

    // ---- get

    @Sentence(of = GET, says = "- `map`: 0 to 5")
    static void getOfTheFirstAndTheLastMap() {
        Run x = numbered();
        for (int map = 0; map < 6; map++) {
            due("get of " + map, x.get(map, 0), map);
        }
    }

    @Sentence(of = GET, says = "- `key`: a key")
    static void getOfTheFirstAndTheLastKey() {
        Run x = new Run();
        x.assign("A=A^0");
        for (int key = 0; key < 16; key++) {
            due("get of " + key, x.get(0, key), key);
        }
    }

    @Sentence(of = GET, says = "Returns its value;")
    static void getTellsTheValue() {
        Run x = one("0>15,15>0,7>3");
        x.push(0, "7>4");
        due("the highest value", x.get(0, 0), 15);
        due("the lowest value", x.get(0, 15), 0);
        due("of the uppermost layer", x.get(0, 7), 4);
        x.turn(0, 1, false);
        due("of the layer that is on", x.get(0, 7), 3);
        x.lift(0, 0, 1);
        due("whatever is off", x.get(0, 7), 3);
        x.turn(0, 0, true);
        due("of the uppermost layer", x.get(0, 7), 3);
        x.pop(0);
        due("of the layer that is left", x.get(0, 7), 4);
    }

    @Sentence(of = GET, says = "UNKNOWN;")
    static void getOfNoKey() {
        for (int map : NO_MAPS) {
            unknown("get of the map " + map, x -> x.get(map, 0));
        }
        for (int key : NO_KEYS) {
            unknown("get of the key " + key, x -> x.get(0, key), x -> x.get(5, key));
        }
    }

    @Sentence(of = GET, says = "NONE if it is a hole.")
    static void getOfAHole() {
        refused("no entry", NONE, Sentences::filled, x -> x.get(0, 7));
        refused("nowhere", NONE, Sentences::filled, x -> x.get(0, 4));
        refused("none but of a layer that is off", NONE, Sentences::filled, x -> x.get(0, 14));
        refused("no layer", NONE, Sentences::filled, x -> x.get(3, 0));
    }

    // ---- tells

    @Sentence(of = TELLS, says = "- `map`: 0 to 5")
    static void tellsOfTheFirstAndTheLastMap() {
        Run x = numbered();
        x.push(5);
        due("of A", x.tells(0, 0), 0);
        due("of F", x.tells(5, 0), 1);
        due("of E", x.tells(4, 0), 0);
    }

    @Sentence(of = TELLS, says = "- `key`: a key")
    static void tellsOfTheFirstAndTheLastKey() {
        Run x = new Run();
        x.assign("A=A^0");
        x.push(0, "15>-");
        for (int key = 0; key < 16; key++) {
            due("of " + key, x.tells(0, key), key == 15 ? 1 : 0);
        }
    }

    @Sentence(of = TELLS, says = "Returns the layer whose entry tells (also if it leads nowhere);")
    static void tellsTellsTheLayer() {
        Run x = new Run();
        for (int layer = 0; layer < 4; layer++) {
            x.push(0, layer % 2 == 0 ? "3>-" : "3>9");
            due("the uppermost one", x.tells(0, 3), layer);
        }
        x.turn(0, 3, false);
        due("the uppermost one that is on leads nowhere", x.tells(0, 3), 2);
        x.setEntry(0, 2, 3, ABSENT);
        due("the one that has an entry", x.tells(0, 3), 1);
        x.turn(0, 1, false);
        due("the lowest one leads nowhere", x.tells(0, 3), 0);
    }

    @Sentence(of = TELLS, says = "UNKNOWN;")
    static void tellsOfNoKey() {
        for (int map : NO_MAPS) {
            unknown("tells of the map " + map, x -> x.tells(map, 0));
        }
        for (int key : NO_KEYS) {
            unknown("tells of the key " + key, x -> x.tells(0, key), x -> x.tells(5, key));
        }
    }

    @Sentence(of = TELLS, says = "NONE if there is none.")
    static void tellsOfNoEntry() {
        refused("no entry", NONE, Sentences::filled, x -> x.tells(0, 7));
        refused("none but of a layer that is off", NONE, Sentences::filled, x -> x.tells(0, 14));
        refused("no layer", NONE, Sentences::filled, x -> x.tells(3, 0));
        due("nowhere is an entry", one("0>-").tells(0, 0), 0);
    }

    // ---- map

    @Sentence(of = MAP, says = "- `map`: 0 to 5")
    static void mapOfTheFirstAndTheLastMap() {
        Run x = numbered();
        for (int map = 0; map < 6; map++) {
            due("values of " + map, x.map(map, 3), 1 << map | 1 << 15 - map);
        }
    }

    @Sentence(of = MAP, says = "- `what`: 0 for its layers")
    static void mapTellsTheLayers() {
        Run x = new Run();
        due("none", x.map(1, 0), 0);
        x.write("0>1");
        for (int layers = 1; layers <= 4; layers++) {
            x.push(1);
            x.turn(1, 0, false);
            due("those that are off, too", x.map(1, 0), layers);
        }
        x.pop(1);
        due("three", x.map(1, 0), 3);
        due("none of another map", x.map(0, 0), 0);
    }

    @Sentence(of = MAP, says = "1 for those that are on")
    static void mapTellsTheLayersThatAreOn() {
        Run x = new Run();
        due("none", x.map(1, 1), 0);
        x.write("0>1");
        for (int layers = 1; layers <= 4; layers++) {
            x.push(1);
            due("all", x.map(1, 1), layers);
        }
        for (int layer = 0; layer < 4; layer++) {
            x.turn(1, layer, false);
            due("without those that are off", x.map(1, 1), 3 - layer);
        }
        x.turn(1, 3, true);
        x.pop(1);
        due("without the one that is taken off", x.map(1, 1), 0);
    }

    @Sentence(of = MAP, says = "2 for its holes (as bits)")
    static void mapTellsTheHoles() {
        due("all", new Run().map(0, 2), ALL_KEYS);
        due("all but the first and the last key", one("0>0,15>0").map(0, 2), ALL_KEYS - 1 - (1 << 15));
        due("nowhere is a hole", one("0>1,15>-").map(0, 2), ALL_KEYS - 1);
        Run x = new Run();
        x.assign("A=A^0");
        due("none", x.map(0, 2), 0);
        x.push(0, "0>-,15>-");
        due("the first and the last key", x.map(0, 2), 1 + (1 << 15));
    }

    @Sentence(of = MAP, says = "3 for its values (the keys that are a value of any key, as bits)")
    static void mapTellsTheValues() {
        due("none", new Run().map(0, 3), 0);
        due("none of what leads nowhere", one("0>-,15>-").map(0, 3), 0);
        due("one of many keys", one("0>15,1>15,15>15").map(0, 3), 1 << 15);
        due("the lowest one", one("7>0").map(0, 3), 1);
        Run x = new Run();
        x.assign("A=A^0");
        due("all", x.map(0, 3), ALL_KEYS);
        x.push(0, "0>15");
        due("not the one that is shadowed", x.map(0, 3), ALL_KEYS - 1);
    }

    @Sentence(of = MAP, says = "4 for whether no two keys have the same value (1, otherwise 0)")
    static void mapTellsWhetherNoTwoAreTheSame() {
        due("of holes", new Run().map(0, 4), 1);
        due("of one value", one("0>1,1>-,2>-").map(0, 4), 1);
        due("of two that are the same", one("0>15,15>15").map(0, 4), 0);
        due("of two that are 0", one("3>0,4>0").map(0, 4), 0);
        due("of two that differ", one("0>15,15>0").map(0, 4), 1);
        Run x = new Run();
        x.assign("A=A^0");
        due("of 16", x.map(0, 4), 1);
        x.setEntry(0, 0, 15, 14);
        due("of 16, of which two are the same", x.map(0, 4), 0);
        x.setEntry(0, 0, 14, NOWHERE);
        due("of 15", x.map(0, 4), 1);
    }

    @Sentence(of = MAP, says = "5 for the keys that are their own values (as bits)")
    static void mapTellsTheKeysThatAreTheirOwnValues() {
        due("none", new Run().map(0, 5), 0);
        due("the first and the last one", one("0>0,15>15,7>8,8>7").map(0, 5), 1 + (1 << 15));
        due("none of those that lead on", one("0>15,15>0").map(0, 5), 0);
        Run x = new Run();
        x.assign("A=A^0");
        due("all", x.map(0, 5), ALL_KEYS);
        x.push(0, "0>-,15>14");
        due("all but two", x.map(0, 5), ALL_KEYS - 1 - (1 << 15));
    }

    @Sentence(of = MAP, says = "6 for its shadowed entries")
    static void mapTellsTheShadowedEntries() {
        due("none", new Run().map(0, 6), 0);
        due("none of one layer", one("0>0,15>-").map(0, 6), 0);
        Run x = new Run();
        for (int layers = 0; layers < 4; layers++) {
            x.assign("B=B^0");
            x.push(0, "0>0,15>-,7>1");
            due("three of each but the uppermost one", x.map(0, 6), 3 * layers);
        }
        x.turn(0, 3, false);
        due("three of two layers", x.map(0, 6), 6);
        x.turn(0, 0, false);
        due("three of one layer", x.map(0, 6), 3);
        x.setEntry(0, 2, 15, ABSENT);
        due("two of one layer", x.map(0, 6), 2);
    }

    @Sentence(of = MAP, says = "7 for the keys that stand on a cycle (as bits)")
    static void mapTellsTheKeysOnACycle() {
        due("none", new Run().map(0, 7), 0);
        due("none of a way to a hole", one("0>1,1>2,15>0").map(0, 7), 0);
        due("one by itself", one("0>0").map(0, 7), 1);
        due("the last one by itself", one("15>15,14>15,0>14").map(0, 7), 1 << 15);
        due("two cycles and ways to them", one("0>15,15>0,3>0,4>5,5>6,6>4,7>4").map(0, 7), 1 + (1 << 15) + 16 + 32 + 64);
        Calls cycle = Sentences::wholeCycle;
        due("all", cycle.onNew().map(1, 7), ALL_KEYS);
        Run x = cycle.onNew();
        x.setEntry(1, 0, 15, 1);
        due("all but the first one", x.map(1, 7), ALL_KEYS - 1);
        x.setEntry(1, 0, 15, NOWHERE);
        due("none", x.map(1, 7), 0);
    }

    @Sentence(of = MAP, says = "8 for the length of its longest cycle (0 if there is none)")
    static void mapTellsTheLongestCycle() {
        due("no value", new Run().map(0, 8), 0);
        due("no cycle", one("0>1,1>2,15>0").map(0, 8), 0);
        due("the last key by itself", one("15>15,14>15,13>14").map(0, 8), 1);
        due("the first key by itself", one("0>0,1>0").map(0, 8), 1);
        due("the longer one behind", one("0>0,1>2,2>1,13>14,14>15,15>13").map(0, 8), 3);
        due("the longer one ahead", one("0>1,1>2,2>0,14>15,15>14,13>13").map(0, 8), 3);
        Calls cycle = Sentences::wholeCycle;
        due("all", cycle.onNew().map(1, 8), 16);
        Run x = cycle.onNew();
        x.setEntry(1, 0, 15, 1);
        due("all but the first one", x.map(1, 8), 15);
        x.setEntry(1, 0, 15, NOWHERE);
        due("none", x.map(1, 8), 0);
    }

    @Sentence(of = MAP, says = "Returns the number; UNKNOWN;")
    static void mapOfNoMap() {
        for (int map : NO_MAPS) {
            for (int what = 0; what < 9; what++) {
                int which = what;
                due("map(" + map + ", " + what + ")", new Run().map(map, which), UNKNOWN);
            }
            unknown("map of " + map, x -> x.map(map, 0), x -> x.map(map, 9), x -> x.map(map, -1));
        }
    }

    @Sentence(of = MAP, says = "BAD_VALUE.")
    static void mapOfNoSuchThing() {
        for (int what : new int[] {-1, 9, Integer.MIN_VALUE, Integer.MAX_VALUE, 256, 65536}) {
            refused("map(0, " + what + ")", BAD_VALUE, Sentences::filled, x -> x.map(0, what));
            refused("map(3, " + what + ")", BAD_VALUE, Sentences::filled, x -> x.map(3, what));
        }
    }

    // ---- layer

    @Sentence(of = LAYER, says = "- `map`: 0 to 5")
    static void layerOfTheFirstAndTheLastMap() {
        Run x = numbered();
        x.setEntry(5, 0, 3, 3);
        for (int map = 0; map < 6; map++) {
            due("entries of " + map, x.layer(map, 0, 0), map == 5 ? 3 : 2);
        }
    }

    @Sentence(of = LAYER, says = "- `layer`: a layer of it")
    static void layerOfTheLowestAndTheUppermostOne() {
        Run x = new Run();
        String layer = "";
        for (int entries = 1; entries <= 4; entries++) {
            layer += (entries > 1 ? "," : "") + entries + ">1";
            x.push(5, layer);
        }
        for (int at = 0; at < 4; at++) {
            due("entries of the layer " + at, x.layer(5, at, 0), at + 1);
        }
    }

    @Sentence(of = LAYER, says = "- `what`: 0 for its entries")
    static void layerTellsTheEntries() {
        Run x = new Run();
        x.assign("A=B");
        due("none", x.layer(0, 0, 0), 0);
        x.assign("A=B^0");
        due("16", x.layer(0, 0, 0), 16);
        x.push(0, "0>-,15>-,3>3");
        due("those that lead nowhere, too", x.layer(0, 1, 0), 3);
        x.turn(0, 1, false);
        due("of one that is off, too", x.layer(0, 1, 0), 3);
        x.setEntry(0, 1, 15, ABSENT);
        due("one less", x.layer(0, 1, 0), 2);
    }

    @Sentence(of = LAYER, says = "1 for whether it is on (1, otherwise 0)")
    static void layerTellsWhetherItIsOn() {
        Run x = one("0>1");
        x.push(0);
        x.turn(0, 1, false);
        due("on", x.layer(0, 0, 1), 1);
        due("off", x.layer(0, 1, 1), 0);
        x.turn(0, 1, true);
        x.turn(0, 0, false);
        due("off", x.layer(0, 0, 1), 0);
        due("on", x.layer(0, 1, 1), 1);
    }

    @Sentence(of = LAYER, says = "2 for its entries that are shadowed (0 if it is off)")
    static void layerTellsTheShadowedEntries() {
        Run x = one("0>1,7>-,15>1");
        x.push(0, "0>-,15>2,9>9");
        x.push(0, "15>3,7>0");
        due("all three, once each", x.layer(0, 0, 2), 3);
        due("one", x.layer(0, 1, 2), 1);
        due("none of the uppermost one", x.layer(0, 2, 2), 0);
        x.turn(0, 0, false);
        due("none of one that is off", x.layer(0, 0, 2), 0);
        due("that changes nothing above", x.layer(0, 1, 2), 1);
        x.turn(0, 0, true);
        x.turn(0, 2, false);
        due("two, by the layer between", x.layer(0, 0, 2), 2);
        due("none of the uppermost one that is on", x.layer(0, 1, 2), 0);
        due("none of the uppermost one, which is off", x.layer(0, 2, 2), 0);
    }

    @Sentence(of = LAYER, says = "3 for its entries that lead nowhere")
    static void layerTellsTheEntriesThatLeadNowhere() {
        due("none", one("0>1,15>0").layer(0, 0, 3), 0);
        due("two", one("0>-,15>-,7>7").layer(0, 0, 3), 2);
        Run x = new Run();
        x.assign("A=B");
        due("none without an entry", x.layer(0, 0, 3), 0);
        for (int key = 0; key < 16; key++) {
            x.setEntry(0, 0, key, NOWHERE);
            due("one more", x.layer(0, 0, 3), key + 1);
        }
        x.turn(0, 0, false);
        due("of one that is off, too", x.layer(0, 0, 3), 16);
    }

    @Sentence(of = LAYER, says = "Returns the number; UNKNOWN;")
    static void layerOfNoLayer() {
        for (int map : NO_MAPS) {
            unknown("layer of the map " + map, x -> x.layer(map, 0, 0), x -> x.layer(map, 0, 4));
        }
        for (int layer : NO_LAYERS) {
            unknown("the layer " + layer, x -> x.layer(0, layer, 0), x -> x.layer(0, layer, 2),
                x -> x.layer(0, layer, 4));
        }
        unknown("beside what there is", x -> x.layer(5, 4, 0), x -> x.layer(1, 1, 1), x -> x.layer(3, 0, 3));
    }

    @Sentence(of = LAYER, says = "BAD_VALUE.")
    static void layerOfNoSuchThing() {
        for (int what : new int[] {-1, 4, Integer.MIN_VALUE, Integer.MAX_VALUE, 256, 65536}) {
            refused("layer(0, 0, " + what + ")", BAD_VALUE, Sentences::filled, x -> x.layer(0, 0, what));
            refused("layer(5, 3, " + what + ")", BAD_VALUE, Sentences::filled, x -> x.layer(5, 3, what));
        }
    }

    // ---- entry

    @Sentence(of = ENTRY, says = "- `map`: 0 to 5")
    static void entryOfTheFirstAndTheLastMap() {
        Run x = numbered();
        for (int map = 0; map < 6; map++) {
            due("entry of " + map, x.entry(map, 0, 0), map);
        }
    }

    @Sentence(of = ENTRY, says = "- `layer`: a layer of it")
    static void entryOfTheLowestAndTheUppermostLayer() {
        Run x = new Run();
        for (int layer = 0; layer < 4; layer++) {
            x.push(5, "15>" + (layer + 8));
        }
        for (int layer = 0; layer < 4; layer++) {
            due("entry in " + layer, x.entry(5, layer, 15), layer + 8);
        }
    }

    @Sentence(of = ENTRY, says = "- `key`: a key")
    static void entryOfTheFirstAndTheLastKey() {
        Run x = new Run();
        x.assign("A=A^0");
        for (int key = 0; key < 16; key++) {
            due("entry of " + key, x.entry(0, 0, key), key);
        }
    }

    @Sentence(of = ENTRY, says = "Returns where its entry for the key leads to, 16 for nowhere, 17 if it has none;")
    static void entryTellsWhereItLeads() {
        Run x = one("0>15,15>0,7>-");
        due("the highest key", x.entry(0, 0, 0), 15);
        due("the lowest key", x.entry(0, 0, 15), 0);
        due("nowhere", x.entry(0, 0, 7), 16);
        due("none", x.entry(0, 0, 8), 17);
        x.push(0, "0>1");
        x.turn(0, 0, false);
        due("whatever shadows it, or is off", x.entry(0, 0, 0), 15);
        due("none above", x.entry(0, 1, 15), 17);
    }

    @Sentence(of = ENTRY, says = "UNKNOWN.")
    static void entryOfNoKey() {
        for (int map : NO_MAPS) {
            unknown("entry of the map " + map, x -> x.entry(map, 0, 0));
        }
        for (int layer : NO_LAYERS) {
            unknown("entry of the layer " + layer, x -> x.entry(0, layer, 0));
        }
        for (int key : NO_KEYS) {
            unknown("entry of the key " + key, x -> x.entry(0, 0, key), x -> x.entry(5, 3, key));
        }
        unknown("beside what there is", x -> x.entry(5, 4, 0), x -> x.entry(1, 1, 0), x -> x.entry(3, 0, 0));
    }
}
