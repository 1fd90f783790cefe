/** The part of "Terms" about asking for a hidden map. */
final class SecretTermSentences extends Sentences {
    private static final String ASKING = "Terms: ASKING FOR A HIDDEN MAP";

    /** At the key 15 the maps have 0, 1, 0, none, none, 5. */
    private static Run sixMaps() {
        Run x = new Run();
        x.push(0, "15>0");
        x.push(1, "15>1");
        x.push(2, "15>0,0>0");
        x.push(3, "15>-");
        x.push(4, "0>1");
        x.push(5, "15>5");
        return x;
    }

    @Sentence(of = ASKING, says = "One map can be hidden")
    static void oneMapAtMost() {
        Run x = sixMaps();
        due("none at first", x.ask(15), NOT_POSSIBLE);
        due("the first one", x.hide(1, 63), 6);
        due("its value", x.ask(15), 1);
        due("another one", x.hide(5, 63), 6);
        due("its value, and no more that of the first one", x.ask(15), 5);
        due("undo, back before the question", x.undo(), 3);
        due("undo, back to the first one", x.undo(), 2);
        due("the suspects that its question had left", x.hidden(0), 2);
        due("its value", x.ask(15), 1);
    }

    @Sentence(of = ASKING, says = "with a set of suspects (maps, as bits), of which it is one.")
    static void theHiddenMapIsASuspect() {
        for (int map = 0; map < 6; map++) {
            Run x = sixMaps();
            due("the only suspect", x.hide(map, 1 << map), 1);
            due("told as bits", x.hidden(0), 1 << map);
            due("all others without it", x.hide(map, 63 - (1 << map)), BAD_VALUE);
            due("it stays as it was", x.hidden(0), 1 << map);
        }
    }

    @Sentence(of = ASKING, says = "What the values of all maps are then stays known by itself, whatever becomes of the maps.")
    static void theValuesStayKnown() {
        int[] values = {0, 1, 0, NOWHERE, NOWHERE, 5};
        int[] left = {1 + 4, 2, 1 + 4, 8 + 16, 8 + 16, 32};
        for (int map = 0; map < 6; map++) {
            Run y = sixMaps();
            y.hide(map, 63);
            for (char letter = 'A'; letter <= 'F'; letter++) {
                y.assign(letter + "=A^0");
            }
            due("the value as it was, of " + map, y.ask(15), values[map]);
            due("the suspects as they were, of " + map, y.hidden(0), left[map]);
        }
        Run x = sixMaps();
        x.hide(0, 63);
        for (int map = 0; map < 6; map++) {
            x.assign((char) ('A' + map) + "=A^0");
        }
        due("groups as they were", x.split(15, 0), 4);
        due("greatest group as it was", x.split(15, 1), 2);
        due("the best key as it was", x.hidden(3), 15);
        due("not found", x.hidden(2), 0);
        due("the value as it was", x.ask(15), 0);
        due("the suspects as they were", x.hidden(0), 1 + 4);
        x.flatten(0);
        x.setEntry(0, 0, 0, 9);
        x.pop(2);
        x.turn(3, 0, false);
        due("a hole as it was", x.ask(0), NOWHERE);
        due("the suspects as they were", x.hidden(0), 1);
        due("what is known of maps that were no layer", hiddenEmptyMap(), NOWHERE);
    }

    private static int hiddenEmptyMap() {
        Run x = new Run();
        x.hide(3, 8);
        x.push(3, "0>0");
        return x.ask(0);
    }

    @Sentence(of = ASKING, says = "Asking a key tells the value of the hidden map;")
    static void askingTellsTheValueOfTheHiddenMap() {
        int[] values = {0, 1, 0, NOWHERE, NOWHERE, 5};
        for (int map = 0; map < 6; map++) {
            Run x = sixMaps();
            x.hide(map, 63);
            due("the value at the last key", x.ask(15), values[map]);
            due("the value at the first key", x.ask(0), map == 2 ? 0 : map == 4 ? 1 : NOWHERE);
            due("the same value again", x.ask(15), values[map]);
        }
    }

    @Sentence(of = ASKING, says = "the suspects that have another value there are not suspects any more")
    static void whoHasAnotherValueIsOut() {
        int[] left = {1 + 4, 2, 1 + 4, 8 + 16, 8 + 16, 32};
        for (int map = 0; map < 6; map++) {
            Run x = sixMaps();
            x.hide(map, 63);
            x.ask(15);
            due("those with the same value are left", x.hidden(0), left[map]);
            x.ask(15);
            due("asking again puts nobody out", x.hidden(0), left[map]);
        }
        Run y = sixMaps();
        y.hide(0, 1 + 2 + 32);
        due("a key at which all are the same", y.ask(7), NOWHERE);
        due("nobody is out", y.hidden(0), 1 + 2 + 32);
        y.ask(15);
        due("who was no suspect does not come in", y.hidden(0), 1);
        y.ask(0);
        due("the hidden map is left", y.hidden(0), 1);
    }

    @Sentence(of = ASKING, says = "(a hole is a value like any other one, in this).")
    static void aHoleIsAValueLikeAnyOther() {
        Run x = sixMaps();
        x.hide(4, 63);
        x.ask(15);
        due("a hole by no entry, and one that leads nowhere", x.hidden(0), 8 + 16);
        Run y = sixMaps();
        y.hide(1, 63);
        y.ask(15);
        due("who has a hole there is out", y.hidden(0), 2);
        Run z = sixMaps();
        z.hide(3, 63);
        due("holes are a group", z.split(15, 0), 4);
        due("of two maps", z.split(15, 1), 2);
    }

    @Sentence(of = ASKING, says = "It is found if all suspects that are left have the same values for all keys.")
    static void foundIfAllThatAreLeftAreTheSame() {
        Run x = new Run();
        x.push(0, "15>3,0>-");
        x.push(1, "15>3");
        x.push(2, "15>3,0>0");
        x.push(3, "15>4");
        due("one suspect", x.hide(0, 1) + x.hidden(2), 1 + 1);
        due("two that are the same", x.hide(0, 3) + x.hidden(2), 2 + 1);
        due("a third one differs at the first key", x.hide(0, 7) + x.hidden(2), 3);
        due("two that differ at the last key", x.hide(1, 2 + 8) + x.hidden(2), 2);
        due("two that differ at each key that one of them has", x.hide(3, 8 + 16) + x.hidden(2), 2);
        due("two empty ones", x.hide(5, 16 + 32) + x.hidden(2), 2 + 1);
        due("all the same but one that is no suspect", x.hide(4, 16 + 32) + x.hidden(2), 2 + 1);
        x.hide(0, 15);
        x.ask(15);
        due("not yet, though one is out", x.hidden(2), 0);
        x.ask(0);
        due("two are left that are the same", x.hidden(0) * 10 + x.hidden(2), 3 * 10 + 1);
    }

    @Sentence(of = ASKING, says = "A key splits the suspects into groups by their values.")
    static void aKeySplitsTheSuspects() {
        Run x = sixMaps();
        x.hide(0, 63);
        due("four groups", x.split(15, 0), 4);
        due("two at most in one", x.split(15, 1), 2);
        due("three groups", x.split(0, 0), 3);
        due("four at most in one", x.split(0, 1), 4);
        due("one group", x.split(7, 0), 1);
        due("all in one", x.split(7, 1), 6);
        x.hide(1, 2 + 32);
        due("two suspects, two groups", x.split(15, 0) * 10 + x.split(15, 1), 2 * 10 + 1);
        due("two suspects, one group", x.split(0, 0) * 10 + x.split(0, 1), 10 + 2);
        x.ask(15);
        due("one suspect", x.split(15, 0) * 10 + x.split(15, 1), 10 + 1);
        Run y = new Run();
        for (int map = 0; map < 6; map++) {
            y.push(map, "4>" + 3 * map);
        }
        y.hide(0, 63);
        due("six groups of one", y.split(4, 0) * 10 + y.split(4, 1), 6 * 10 + 1);
    }

    /** Of the key 3 groups of 4, 1, 1; of the key 9 of 3, 3; of the key 12 of 5, 1. */
    private static Run groupsOfThree() {
        Run x = new Run();
        x.push(0, "3>1,9>1");
        x.push(1, "3>1,9>1");
        x.push(2, "3>1,9>1");
        x.push(3, "3>1,9>2");
        x.push(4, "3>2,9>2");
        x.push(5, "3>3,9>2,12>0");
        return x;
    }

    @Sentence(of = ASKING, says = "The best key is the one whose greatest group is the least,")
    static void theBestKeyHasTheLeastGreatestGroup() {
        Run x = groupsOfThree();
        x.hide(0, 63);
        due("the key with groups of 3 and 3", x.hidden(3), 9);
        due("its greatest group", x.hidden(4), 3);
        due("its groups, though another key makes more", x.hidden(5), 2);
        due("the other key makes more", x.split(3, 0), 3);
        x.hide(0, 1 + 32);
        due("of two suspects the first key of those that differ", x.hidden(3), 3);
    }

    @Sentence(of = ASKING, says = "of several the one that makes the most groups,")
    static void ofSeveralTheOneWithTheMostGroups() {
        Run x = groupsOfThree();
        x.setEntry(3, 0, 15, 4);
        x.setEntry(4, 0, 15, 4);
        x.setEntry(5, 0, 15, 5);
        x.hide(0, 63);
        due("three at most at the key 9 and at the key 15", x.split(9, 1) * 10 + x.split(15, 1), 33);
        due("the one that makes three groups", x.hidden(3), 15);
        due("its greatest group", x.hidden(4), 3);
        due("its groups", x.hidden(5), 3);
    }

    @Sentence(of = ASKING, says = "of several the lowest one.")
    static void ofSeveralTheLowestOne() {
        Run x = groupsOfThree();
        for (int map = 3; map < 6; map++) {
            x.setEntry(map, 0, 15, 4);
            x.setEntry(map, 0, 10, 4);
        }
        x.hide(0, 63);
        due("three groups of the lot are the same", x.split(9, 1) * 100 + x.split(10, 1) * 10 + x.split(15, 1), 333);
        due("the lowest one", x.hidden(3), 9);
        Run y = new Run();
        y.assign("A=A^0");
        y.hide(0, 3);
        due("all keys are as good", y.hidden(3), 0);
        y.setEntry(0, 0, 0, ABSENT);
        y.hide(0, 3);
        due("all keys but the first one", y.hidden(3), 1);
        y.assign("A=A{15}");
        y.hide(0, 3);
        due("none but the last key", y.hidden(3), 15);
    }
}
