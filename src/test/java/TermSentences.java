/** "What it is", and the part of "Terms" about keys and maps. */
final class TermSentences extends Sentences {
    private static final String MAPS = "Terms: KEYS AND MAPS";

    // ---- calls

    @Sentence(of = "What it is", says = "An object is used for at most 512 calls after it has been made")
    static void the512thCallAnswersAsTheFirstOne() {
        Run x = new Run();
        due("hide, call 1", x.hide(0, 63), 6);
        for (int call = 2; call < 512; call++) {
            due("ask, call " + call, x.ask(call % 16), NOWHERE);
        }
        due("hidden, call 512", x.hidden(1), 510);
        Run y = new Run();
        due("push of no text", y.push(0, ""), fault(0));
        y.push(0, "0>0");
        int value = 0;
        while (y.callsLeft() > 1) {
            due("setEntry", y.setEntry(0, 0, 0, (value + 1) % 18), value);
            value = (value + 1) % 18;
        }
        due("undo, call 512", y.undo(), 3);
    }

    // ---- keys and maps

    @Sentence(of = MAPS, says = "There are 16 keys, numbered from 0.")
    static void keysAre0To15() {
        Run x = new Run();
        due("holes of an empty map", x.map(0, 2), 65535);
        x.push(0, "0>15,15>0");
        due("the lowest key", x.get(0, 0), 15);
        due("the highest key", x.get(0, 15), 0);
        due("no key below", x.get(0, -1), UNKNOWN);
        due("no key above", x.get(0, 16), UNKNOWN);
        due("no key above in a text", x.push(0, "16>0"), fault(1));
    }

    @Sentence(of = MAPS, says = "There are 6 maps, A to F, numbered from 0.")
    static void mapsAreAToF() {
        for (int map = 0; map < 6; map++) {
            Run x = new Run();
            due("a letter is assigned", x.assign((char) ('A' + map) + "=A^0"), 16);
            for (int other = 0; other < 6; other++) {
                due("the map of the letter " + map + ": " + other, x.map(other, 0), other == map ? 1 : 0);
            }
            due("a letter is read", x.gives("A=" + (char) ('A' + map), 9), 9);
        }
        Run x = new Run();
        due("no map below", x.map(-1, 0), UNKNOWN);
        due("no map above", x.map(6, 0), UNKNOWN);
        due("no letter below", x.assign("@=A"), fault(0));
        due("no letter above", x.assign("G=A"), fault(0));
    }

    @Sentence(of = MAPS, says = "A map is a pile of at most 4 layers")
    static void aPileHasAtMost4Layers() {
        Run x = new Run();
        x.write("3>4");
        for (int layers = 1; layers <= 4; layers++) {
            due("a layer more", x.push(2), layers);
            due("so many layers", x.map(2, 0), layers);
        }
        due("no fifth one", x.push(2), FULL);
        due("still four", x.map(2, 0), 4);
        due("no fifth one to be told of", x.layer(2, 4, 0), UNKNOWN);
    }

    @Sentence(of = MAPS, says = "numbered from 0 at the bottom")
    static void layersAreNumberedFromTheBottom() {
        Run x = new Run();
        for (int layer = 0; layer < 4; layer++) {
            x.push(2, "3>" + (5 + layer));
        }
        for (int layer = 0; layer < 4; layer++) {
            due("the layer " + layer, x.entry(2, layer, 3), 5 + layer);
        }
        due("none below the bottom", x.entry(2, -1, 3), UNKNOWN);
        due("the top tells", x.tells(2, 3), 3);
        due("the top is taken off", x.pop(2) + x.tells(2, 3), 1 + 2);
    }

    @Sentence(of = MAPS, says = "(none at first)")
    static void noLayerAtFirst() {
        for (int map = 0; map < 6; map++) {
            Run x = new Run();
            due("no layer", x.map(map, 0), 0);
            due("no layer to be told of", x.layer(map, 0, 0), UNKNOWN);
            due("no layer to be taken off", x.pop(map), NONE);
            due("the first one", x.push(map, "0>0"), 1);
        }
    }

    @Sentence(of = MAPS, says = "A layer has for each key an entry or none")
    static void eachKeyHasAnEntryOrNone() {
        Run x = new Run();
        x.push(0, "0>15,7>-");
        x.push(0, "1>1");
        x.setEntry(0, 1, 1, ABSENT);
        for (int key = 0; key < 16; key++) {
            due("none but two", x.entry(0, 0, key), key == 0 ? 15 : key == 7 ? NOWHERE : ABSENT);
            due("none at all", x.entry(0, 1, key), ABSENT);
        }
        x.assign("B=A^0");
        for (int key = 0; key < 16; key++) {
            due("one for each key", x.entry(1, 0, key), key);
        }
    }

    @Sentence(of = MAPS, says = "an entry leads to a key, or nowhere.")
    static void anEntryLeadsToAKeyOrNowhere() {
        Run x = new Run();
        x.push(0, "0>0,1>15,2>-");
        due("to the lowest key", x.entry(0, 0, 0) + x.get(0, 0), 0);
        due("to the highest key", x.entry(0, 0, 1) + x.get(0, 1), 30);
        due("nowhere is an entry", x.entry(0, 0, 2), NOWHERE);
        due("nowhere is counted", x.layer(0, 0, 0), 3);
        due("nowhere is no value", x.get(0, 2), NONE);
    }

    @Sentence(of = MAPS, says = "A layer is on (at first) or off.")
    static void aLayerIsOnAtFirst() {
        Run x = new Run();
        x.push(0, "0>1");
        due("on", x.layer(0, 0, 1), 1);
        x.turn(0, 0, false);
        due("off", x.layer(0, 0, 1), 0);
        x.pop(0);
        x.push(0);
        due("a new one is on, where one was off", x.layer(0, 0, 1), 1);
        x.turn(0, 0, false);
        x.assign("A=B");
        due("an assigned one is on, where one was off", x.layer(0, 0, 1), 1);
    }

    @Sentence(of = MAPS, says = "The value of a key in a map is that of the entry of the uppermost layer that is on")
    static void theUppermostLayerThatIsOnTells() {
        Run x = new Run();
        for (int layer = 0; layer < 4; layer++) {
            x.push(0, "6>" + layer);
        }
        for (int layer = 3; layer > 0; layer--) {
            due("the uppermost of those that are on", x.get(0, 6), layer);
            x.turn(0, layer, false);
        }
        due("the lowest one", x.get(0, 6), 0);
        x.turn(0, 2, true);
        due("one between", x.get(0, 6), 2);
    }

    @Sentence(of = MAPS, says = "and has an entry for it")
    static void aLayerWithoutAnEntryLetsThrough() {
        Run x = new Run();
        x.push(0, "0>1,15>2");
        x.push(0, "1>1");
        x.push(0, "2>2");
        x.push(0, "3>3");
        due("through three layers", x.get(0, 0), 1);
        due("through three layers, the last key", x.get(0, 15), 2);
        due("through two", x.get(0, 1), 1);
    }

    @Sentence(of = MAPS, says = "if that leads nowhere")
    static void nowhereOnTopIsAHole() {
        Run x = new Run();
        x.push(0, "0>1,15>2");
        x.push(0, "0>-,15>-");
        due("a hole, though a lower layer leads somewhere", x.get(0, 0), NONE);
        due("a hole, the last key", x.get(0, 15), NONE);
        due("a hole, told as bits", x.map(0, 2), 65535);
        x.turn(0, 1, false);
        due("none if that layer is off", x.get(0, 0), 1);
        x.turn(0, 1, true);
        x.push(0, "0>3");
        due("none if an upper layer leads somewhere", x.get(0, 0), 3);
    }

    @Sentence(of = MAPS, says = "or there is no such layer, the key is a hole (it has no value).")
    static void noLayerThatTellsIsAHole() {
        Run x = new Run();
        due("a hole of a map without a layer", x.get(0, 0), NONE);
        x.push(0, "0>1");
        due("a hole, where no layer has an entry", x.get(0, 1), NONE);
        due("its only value", x.map(0, 2), 65534);
        x.turn(0, 0, false);
        due("a hole, where no layer is on", x.get(0, 0), NONE);
        due("no value at all", x.map(0, 2), 65535);
    }

    @Sentence(of = MAPS, says = "An entry of a layer that is on is shadowed")
    static void anEntryOfALayerThatIsOffIsNotShadowed() {
        Run x = new Run();
        x.push(0, "0>1,15>1");
        x.push(0, "0>2,15>2");
        due("two are shadowed", x.map(0, 6), 2);
        due("two of the lower layer", x.layer(0, 0, 2), 2);
        due("none of the uppermost one", x.layer(0, 1, 2), 0);
        x.turn(0, 0, false);
        due("none is shadowed, since its layer is off", x.map(0, 6), 0);
        due("none of the lower layer", x.layer(0, 0, 2), 0);
        due("none of all maps", x.count(3), 0);
    }

    @Sentence(of = MAPS, says = "if an upper layer that is on has an entry")
    static void onlyAnUpperLayerThatIsOnShadows() {
        Run x = new Run();
        x.push(0, "0>1,15>1");
        x.push(0, "0>-,15>2");
        x.push(0, "1>1");
        due("two, also by an entry that leads nowhere", x.layer(0, 0, 2), 2);
        x.turn(0, 1, false);
        due("none, since the upper layer is off", x.layer(0, 0, 2), 0);
        due("none of the map", x.map(0, 6), 0);
        x.lift(0, 1, 0);
        x.turn(0, 0, true);
        due("none, since the other one is lower", x.layer(0, 1, 2), 0);
        due("two of the lower one", x.layer(0, 0, 2), 2);
    }

    @Sentence(of = MAPS, says = "for the same key.")
    static void onlyAnEntryForTheSameKeyShadows() {
        Run x = new Run();
        x.push(0, "0>1,14>1,15>1");
        x.push(0, "1>0,13>15,15>-");
        due("one is shadowed", x.layer(0, 0, 2), 1);
        due("one of the map", x.map(0, 6), 1);
        x.push(0, "0>1,15>1");
        due("shadowed twice is one entry", x.layer(0, 0, 2), 2);
        due("one of the layer between", x.layer(0, 1, 2), 1);
        due("three of the map", x.map(0, 6), 3);
    }
}
