/** Promises 10, 11, 26, 27 and 28: a hidden map, and the keys that tell maps apart. */
final class SecretSentences extends Sentences {
    private static final String HIDE = "Promise 10: hide";
    private static final String ASK = "Promise 11: ask";
    private static final String PROBES = "Promise 26: probes";
    private static final String HIDDEN = "Promise 27: hidden";
    private static final String SPLIT = "Promise 28: split";

    private static final int[] NO_SUSPECTS = {0, 64, 65, -1, Integer.MIN_VALUE, Integer.MAX_VALUE, 256, 257, 65536};

    /** A: 0>1, B: 0>2, C: 0>1 1>1, D: 1>1, E: nothing, F: 0>2 1>1. */
    private static void sixMaps(Run x) {
        x.push(0, "0>1");
        x.push(1, "0>2");
        x.push(2, "0>1,1>1");
        x.push(3, "1>1");
        x.push(5, "0>2,1>1");
    }

    private static Run hidden(int map, int suspects) {
        Run x = new Run();
        sixMaps(x);
        x.hide(map, suspects);
        return x;
    }

    // ---- hide

    @Sentence(of = HIDE, says = "Hides a map among suspects, anew.")
    static void hideForgetsWhatWasAsked() {
        Run x = hidden(0, 63);
        x.ask(0);
        x.ask(0);
        due("two keys were asked", x.hidden(1) * 100 + x.hidden(0), 200 + 5);
        x.hide(0, 63);
        due("the same anew: none was asked", x.hidden(1), 0);
        due("the same anew: all are suspects", x.hidden(0), 63);
        x.push(4, "0>1");
        due("what was known stays", x.split(0, 1), 2);
        x.hide(0, 63);
        due("what is known is what is now", x.split(0, 1), 3);
    }

    @Sentence(of = HIDE, says = "This is an act.")
    static void hideIsAnAct() {
        recorded("another map", 6, Sentences::withRoom, x -> x.hide(4, 63));
        recorded("the same one anew", 3, Sentences::withRoom, x -> x.hide(0, 7));
        recorded("the first one", 1, x -> x.push(0, "0>1"), x -> x.hide(5, 32));
    }

    @Sentence(of = HIDE, says = "- `map`: 0 to 5")
    static void hideTheFirstAndTheLastMap() {
        Run x = new Run();
        for (int map = 0; map < 6; map++) {
            x.push(map, "9>" + (15 - map));
        }
        for (int map = 0; map < 6; map++) {
            due("hide", x.hide(map, 63), 6);
            due("its value", x.ask(9), 15 - map);
        }
    }

    @Sentence(of = HIDE, says = "- `suspects`: 1 to 63, as bits")
    static void suspectsAre1To63() {
        Run x = new Run();
        for (int suspects = 1; suspects <= 63; suspects++) {
            int lowest = Integer.numberOfTrailingZeros(suspects);
            due("suspects " + suspects, x.hide(lowest, suspects), Integer.bitCount(suspects));
            due("they are told so", x.hidden(0), suspects);
        }
    }

    @Sentence(of = HIDE, says = "Returns how many suspects there are;")
    static void hideTellsTheNumberOfSuspects() {
        Run x = new Run();
        due("one", x.hide(5, 32), 1);
        due("two", x.hide(0, 33), 2);
        due("five", x.hide(5, 62), 5);
        due("six", x.hide(3, 63), 6);
    }

    @Sentence(of = HIDE, says = "UNKNOWN;")
    static void hideNoMap() {
        for (int map : NO_MAPS) {
            refused("hide(" + map + ", 63)", UNKNOWN, Sentences::filled, x -> x.hide(map, 63));
            refused("hide(" + map + ", 64)", UNKNOWN, Sentences::filled, x -> x.hide(map, 64));
        }
    }

    @Sentence(of = HIDE, says = "BAD_VALUE (suspects;")
    static void hideAmongNoSuspects() {
        for (int suspects : NO_SUSPECTS) {
            refused("hide(0, " + suspects + ")", BAD_VALUE, Sentences::filled, x -> x.hide(0, suspects));
        }
    }

    @Sentence(of = HIDE, says = "also if the map is not one of them).")
    static void hideAmongOthers() {
        for (int map = 0; map < 6; map++) {
            int hidden = map;
            int others = 63 - (1 << map);
            refused("hide " + map + " among the others", BAD_VALUE, Sentences::filled, x -> x.hide(hidden, others));
            refused("hide " + map + " for another one", BAD_VALUE, Sentences::filled,
                x -> x.hide(hidden, 1 << (hidden + 1) % 6));
        }
    }

    // ---- ask

    @Sentence(of = ASK, says = "Asks a key of the hidden map.")
    static void askCountsAndPutsOut() {
        Run x = hidden(2, 63);
        x.ask(0);
        due("those with 1 at the key 0 are left", x.hidden(0), 1 + 4);
        x.ask(1);
        due("those with 1 at the key 1, too", x.hidden(0), 4);
        due("two were asked", x.hidden(1), 2);
        x.ask(1);
        x.ask(15);
        due("a key is asked again, and one that tells nothing", x.hidden(1), 4);
    }

    @Sentence(of = ASK, says = "This is an act.")
    static void askIsAnAct() {
        recorded("a key that puts somebody out", NOWHERE, Sentences::withRoom, x -> x.ask(3));
        recorded("the same key again", 14, Sentences::withRoom, x -> x.ask(15));
        recorded("when it is found", 1, x -> {
            x.push(0, "0>1");
            x.hide(0, 1);
        }, x -> x.ask(0));
    }

    @Sentence(of = ASK, says = "- `key`: a key")
    static void askTheFirstAndTheLastKey() {
        Run x = new Run();
        x.assign("A=A^0");
        x.hide(0, 63);
        for (int key = 0; key < 16; key++) {
            due("ask " + key, x.ask(key), key);
        }
        due("all were asked", x.hidden(1), 16);
    }

    @Sentence(of = ASK, says = "Returns its value, 16 if it is a hole;")
    static void askTellsTheValueOr16() {
        Run x = new Run();
        x.push(3, "0>0,15>15,1>-");
        x.hide(3, 8);
        due("the lowest value", x.ask(0), 0);
        due("the highest value", x.ask(15), 15);
        due("nowhere", x.ask(1), 16);
        due("no entry", x.ask(2), 16);
        x.hide(4, 16);
        due("no layer", x.ask(0), 16);
    }

    @Sentence(of = ASK, says = "UNKNOWN;")
    static void askNoKey() {
        for (int key : NO_KEYS) {
            refused("ask(" + key + ")", UNKNOWN, Sentences::filled, x -> x.ask(key));
            refused("ask(" + key + "), nothing hidden", UNKNOWN, SecretSentences::sixMaps, x -> x.ask(key));
        }
    }

    private static void hiddenAndUndone(Run x) {
        sixMaps(x);
        x.hide(0, 63);
        x.undo();
    }

    @Sentence(of = ASK, says = "NOT_POSSIBLE if no map is hidden.")
    static void askNothingHidden() {
        refused("a new object", NOT_POSSIBLE, x -> x.clearText(), x -> x.ask(0));
        refused("maps, but none hidden", NOT_POSSIBLE, SecretSentences::sixMaps, x -> x.ask(15));
        refused("one was hidden, but that is undone", NOT_POSSIBLE, SecretSentences::hiddenAndUndone, x -> x.ask(0));
        refused("restored to when none was", NOT_POSSIBLE, x -> {
            x.keep();
            x.hide(0, 1);
            x.restore();
        }, x -> x.ask(0));
    }

    // ---- probes

    @Sentence(of = PROBES, says = "Finds the fewest keys that tell maps apart: "
        + "such that any two of them that differ at all differ at one of these keys;")
    static void probesFindsTheFewestKeys() {
        Run x = new Run();
        int keys = 0;
        for (int map = 0; map < 5; map++) {
            int key = 15 - 3 * map;
            x.push(map, key + ">" + key);
            keys += 1 << key;
            due("so many keys as maps that differ from the empty one", x.probes(63), keys);
        }
        x.assign("F=A^0");
        due("four keys and the identity", Integer.bitCount(x.probes(63)), 4);
        Run y = new Run();
        y.push(0, "0>1,2>1");
        y.push(1, "1>1,2>2");
        y.push(2, "0>1,1>1,2>3");
        due("one key for four values, instead of two lower ones", y.probes(15), 4);
        y.setEntry(2, 0, 2, 2);
        due("two keys", y.probes(15), 3);
        Run z = new Run();
        z.push(0, "4>4");
        z.push(1, "4>4");
        z.push(2, "4>4,9>-");
        due("two that are the same need no key", z.probes(7), 0);
        due("one key for the others", z.probes(63), 16);
    }

    @Sentence(of = PROBES, says = "of several sets of as few keys the one that is the least as a number.")
    static void probesFindsTheLeastNumber() {
        Run x = new Run();
        x.assign("A=A^0");
        due("each key would do", x.probes(3), 1);
        x.setEntry(0, 0, 0, ABSENT);
        due("each key but the first one", x.probes(3), 2);
        x.assign("A=A{14,15}");
        due("two keys would do", x.probes(3), 1 << 14);
        Run y = new Run();
        y.push(0, "2>0,14>0");
        y.push(1, "3>0,15>0");
        y.push(2, "2>0,3>0,14>0,15>0");
        due("of four pairs the least one", y.probes(15), 4 + 8);
        Run z = new Run();
        z.push(0, "0>0,1>0,2>0");
        z.push(1, "1>0,2>1");
        z.push(2, "0>0,2>2");
        due("one key is fewer than two, though it is more as a number", z.probes(15), 4);
        z.push(2, "2>1");
        due("of the pairs the least one", z.probes(15), 3);
    }

    @Sentence(of = PROBES, says = "- `maps`: 1 to 63, as bits")
    static void mapsAre1To63() {
        Run x = new Run();
        for (int map = 0; map < 6; map++) {
            x.push(map, "9>" + map);
        }
        for (int maps = 1; maps <= 63; maps++) {
            due("maps " + maps, x.probes(maps), Integer.bitCount(maps) > 1 ? 512 : 0);
        }
        Run y = new Run();
        y.push(5, "8>8");
        y.push(0, "7>7");
        due("only those that are told", y.probes(32 + 16) * 10 + y.probes(16 + 8), 2560);
        due("only those that are told", y.probes(1 + 2), 128);
    }

    @Sentence(of = PROBES, says = "Returns the keys (as bits, 0 if all are the same);")
    static void probesOfTheSameIs0() {
        Run x = new Run();
        due("all empty", x.probes(63), 0);
        x.push(0, "0>-,15>-");
        due("one leads nowhere", x.probes(63), 0);
        x.assign("B=A^0");
        x.assign("D=A^0");
        due("the two others", x.probes(2 + 8), 0);
        due("one and an empty one", x.probes(1 + 2), 1);
        x.push(4, "15>0");
        due("the last key", x.probes(1 + 16), 1 << 15);
    }

    @Sentence(of = PROBES, says = "BAD_VALUE.")
    static void probesOfNoMaps() {
        for (int maps : NO_SUSPECTS) {
            refused("probes(" + maps + ")", BAD_VALUE, Sentences::filled, x -> x.probes(maps));
        }
    }

    // ---- hidden

    @Sentence(of = HIDDEN, says = "- `what`: 0 for the suspects that are left (as bits)")
    static void hiddenTellsTheSuspects() {
        due("all", hidden(4, 63).hidden(0), 63);
        due("the last one alone", hidden(5, 32).hidden(0), 32);
        due("the first one alone", hidden(0, 1).hidden(0), 1);
        Run x = hidden(4, 63);
        x.ask(0);
        due("those with a hole at 0", x.hidden(0), 8 + 16);
        x.ask(1);
        due("those with a hole at 1, too", x.hidden(0), 16);
        x.ask(2);
        due("the hidden one stays", x.hidden(0), 16);
    }

    @Sentence(of = HIDDEN, says = "1 for how often a key was asked")
    static void hiddenTellsHowOftenWasAsked() {
        Run x = hidden(4, 63);
        due("none at first", x.hidden(1), 0);
        for (int times = 1; times <= 20; times++) {
            x.ask(times % 3);
            due("each time, the same key too", x.hidden(1), times);
        }
        x.ask(16);
        due("not if it is refused", x.hidden(1), 20);
        x.undo();
        due("not if it is undone", x.hidden(1), 19);
        x.hide(4, 63);
        due("none, anew", x.hidden(1), 0);
    }

    @Sentence(of = HIDDEN, says = "2 for whether it is found (1, otherwise 0)")
    static void hiddenTellsWhetherItIsFound() {
        due("of one suspect", hidden(0, 1).hidden(2), 1);
        due("of two", hidden(0, 3).hidden(2), 0);
        Run x = hidden(4, 63);
        x.ask(0);
        due("two are left that differ at the key 1", x.hidden(2), 0);
        x.ask(1);
        due("one is left", x.hidden(2), 1);
        Run y = new Run();
        y.push(0, "15>1");
        y.push(1, "15>1,0>-");
        y.hide(0, 3);
        due("two with the same values", y.hidden(2), 1);
        y.hide(0, 7);
        due("a third one differs at the last key", y.hidden(2), 0);
    }

    @Sentence(of = HIDDEN, says = "3 for the best key (NONE if it is found)")
    static void hiddenTellsTheBestKey() {
        due("found", hidden(0, 1).hidden(3), NONE);
        due("the key 0 makes groups of 2, 2, 2", hidden(0, 63).hidden(3), 0);
        due("A and C differ at the key 1", hidden(0, 5).hidden(3), 1);
        Run x = hidden(0, 63);
        x.ask(0);
        due("A and C are left", x.hidden(3), 1);
        x.ask(1);
        due("found", x.hidden(3), NONE);
        Run y = new Run();
        y.push(0, "15>1");
        y.hide(1, 3);
        due("the last key", y.hidden(3), 15);
        y.hide(1, 6);
        due("two that are the same", y.hidden(3), NONE);
    }

    @Sentence(of = HIDDEN, says = "4 for the greatest group that this makes (NONE likewise)")
    static void hiddenTellsTheGreatestGroup() {
        due("found", hidden(0, 1).hidden(4), NONE);
        due("groups of 2, 2, 2", hidden(0, 63).hidden(4), 2);
        due("groups of 1, 1", hidden(0, 5).hidden(4), 1);
        Run x = new Run();
        x.push(0, "15>1");
        x.hide(1, 63);
        due("groups of 5, 1", x.hidden(4), 5);
        x.ask(15);
        due("found, though five are left", x.hidden(4), NONE);
    }

    @Sentence(of = HIDDEN, says = "5 for the groups that it makes (NONE likewise)")
    static void hiddenTellsTheGroups() {
        due("found", hidden(0, 1).hidden(5), NONE);
        due("groups of 2, 2, 2", hidden(0, 63).hidden(5), 3);
        due("groups of 1, 1", hidden(0, 5).hidden(5), 2);
        Run x = new Run();
        for (int map = 0; map < 6; map++) {
            x.push(map, "7>" + map);
        }
        x.hide(1, 63);
        due("six groups of 1", x.hidden(5), 6);
        x.ask(7);
        due("found", x.hidden(5), NONE);
    }

    @Sentence(of = HIDDEN, says = "Returns the number; BAD_VALUE;")
    static void hiddenOfNoSuchThing() {
        for (int what : new int[] {-1, 6, Integer.MIN_VALUE, Integer.MAX_VALUE, 256, 65536}) {
            refused("hidden(" + what + ")", BAD_VALUE, Sentences::filled, x -> x.hidden(what));
            refused("hidden(" + what + "), nothing hidden", BAD_VALUE, SecretSentences::sixMaps, x -> x.hidden(what));
        }
    }

    @Sentence(of = HIDDEN, says = "NOT_POSSIBLE if no map is hidden.")
    static void hiddenOfNothing() {
        for (int each = 0; each < 6; each++) {
            int what = each;
            refused("hidden(" + what + ")", NOT_POSSIBLE, SecretSentences::sixMaps, x -> x.hidden(what));
            refused("hidden(" + what + ")", NOT_POSSIBLE, SecretSentences::hiddenAndUndone, x -> x.hidden(what));
        }
    }

    // ---- split

    @Sentence(of = SPLIT, says = "Tells how a key would split the suspects.")
    static void splitAsksNothing() {
        Calls before = x -> {
            sixMaps(x);
            x.hide(5, 63);
            x.ask(1);
        };
        Check.nothingChanged("split", before, x -> {
            due("the suspects that are left: C, D, F", x.hidden(0), 4 + 8 + 32);
            due("only they are split: 1, none, 2", x.split(0, 0) * 10 + x.split(0, 1), 31);
            due("by a key that was asked", x.split(1, 0) * 10 + x.split(1, 1), 13);
            due("no key was asked by that", x.hidden(1), 1);
        });
    }

    @Sentence(of = SPLIT, says = "- `key`: a key")
    static void splitByTheFirstAndTheLastKey() {
        Run x = new Run();
        x.assign("A=A^0");
        x.push(1, "0>0,15>0");
        x.push(2, "0>1,15>0");
        x.push(3, "15>1");
        x.hide(0, 63);
        due("the first key: 0 0 1 - - -", x.split(0, 0) * 10 + x.split(0, 1), 33);
        due("the last key: 15 0 0 1 - -", x.split(15, 0) * 10 + x.split(15, 1), 42);
        for (int key = 1; key < 15; key++) {
            due("a key between", x.split(key, 0) * 10 + x.split(key, 1), 25);
        }
    }

    @Sentence(of = SPLIT, says = "- `what`: 0 for the groups")
    static void splitTellsTheGroups() {
        due("of one suspect", hidden(0, 1).split(0, 0), 1);
        due("all the same", hidden(0, 63).split(15, 0), 1);
        due("three", hidden(0, 63).split(0, 0), 3);
        Run x = new Run();
        for (int map = 0; map < 5; map++) {
            x.push(map, "7>" + map);
        }
        x.hide(1, 63);
        due("six, a hole is a group too", x.split(7, 0), 6);
    }

    @Sentence(of = SPLIT, says = "1 for the greatest group")
    static void splitTellsTheGreatestGroup() {
        due("of one suspect", hidden(0, 1).split(0, 1), 1);
        due("all the same", hidden(0, 63).split(15, 1), 6);
        due("two in each", hidden(0, 63).split(0, 1), 2);
        due("the holes are the greatest one", hidden(0, 31).split(1, 1), 3);
        due("the hidden map is not in the greatest one", hidden(1, 1 + 2 + 4).split(0, 1), 2);
        due("it is the last one", hidden(0, 1 + 2 + 32).split(0, 1), 2);
        due("it is the first one", hidden(5, 1 + 4 + 32).split(0, 1), 2);
    }

    @Sentence(of = SPLIT, says = "Returns the number; UNKNOWN;")
    static void splitByNoKey() {
        for (int key : NO_KEYS) {
            refused("split(" + key + ", 0)", UNKNOWN, Sentences::filled, x -> x.split(key, 0));
            refused("split(" + key + ", 2)", UNKNOWN, Sentences::filled, x -> x.split(key, 2));
            refused("split(" + key + ", 1), nothing hidden", UNKNOWN, SecretSentences::sixMaps, x -> x.split(key, 1));
        }
    }

    @Sentence(of = SPLIT, says = "BAD_VALUE;")
    static void splitOfNoSuchThing() {
        for (int what : new int[] {-1, 2, Integer.MIN_VALUE, Integer.MAX_VALUE, 256, 65536}) {
            refused("split(0, " + what + ")", BAD_VALUE, Sentences::filled, x -> x.split(0, what));
            refused("split(0, " + what + "), nothing hidden", BAD_VALUE, SecretSentences::sixMaps, x -> x.split(0, what));
        }
    }

    @Sentence(of = SPLIT, says = "NOT_POSSIBLE if no map is hidden.")
    static void splitOfNothing() {
        for (int each = 0; each < 2; each++) {
            int what = each;
            refused("split(0, " + what + ")", NOT_POSSIBLE, SecretSentences::sixMaps, x -> x.split(0, what));
            refused("split(15, " + what + ")", NOT_POSSIBLE, SecretSentences::hiddenAndUndone, x -> x.split(15, what));
        }
    }
}
