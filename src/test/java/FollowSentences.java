/** Promises 22, 23, 25 and 29: ways from key to key, maps that are compared, and counts. */
final class FollowSentences extends Sentences {
    private static final String FOLLOW = "Promise 22: follow";
    private static final String AFTER = "Promise 23: after";
    private static final String DIFFER = "Promise 25: differ";
    private static final String COUNT = "Promise 29: count";

    private static final Calls CYCLE = Sentences::wholeCycle;

    /** The longest way: from 0 to 15, of which no entry leads on. */
    private static Run longestWay() {
        Run x = CYCLE.onNew();
        x.setEntry(1, 0, 15, ABSENT);
        return x;
    }

    private static Run one(String layer) {
        Run x = new Run();
        x.push(0, layer);
        return x;
    }

    /** Each map leads the key 0 to 9 less its number, and that nowhere. */
    private static Run numbered() {
        Run x = new Run();
        for (int map = 0; map < 6; map++) {
            x.push(map, "0>" + (9 - map) + ",15>15");
        }
        return x;
    }

    // ---- follow

    @Sentence(of = FOLLOW, says = "- `map`: 0 to 5")
    static void followInTheFirstAndTheLastMap() {
        Run x = numbered();
        x.setEntry(5, 0, 4, 3);
        x.setEntry(0, 0, 9, 9);
        due("in F", x.follow(5, 0, 0), 2);
        due("in A", x.follow(0, 0, 2), 1);
        due("in B", x.follow(1, 0, 0), 1);
    }

    @Sentence(of = FOLLOW, says = "- `key`: a key")
    static void followTheFirstAndTheLastKey() {
        Run x = longestWay();
        for (int key = 0; key < 16; key++) {
            due("from " + key, x.follow(1, key, 0), 15 - key);
        }
    }

    @Sentence(of = FOLLOW, says = "- `what`: 0 for how many steps it takes to a hole (0 if the key itself is one; NONE if none is met)")
    static void followToAHole() {
        due("the key itself, without an entry", one("1>2").follow(0, 0, 0), 0);
        due("the key itself leads nowhere", one("15>-").follow(0, 15, 0), 0);
        due("one step", one("0>1").follow(0, 0, 0), 1);
        due("one step to what leads nowhere", one("0>15,15>-").follow(0, 0, 0), 1);
        due("15 steps", longestWay().follow(1, 0, 0), 15);
        due("none on a cycle of one", one("0>0").follow(0, 0, 0), NONE);
        due("none on a cycle of 16", CYCLE.onNew().follow(1, 0, 0), NONE);
        due("none on a way to a cycle", one("0>1,1>2,2>1").follow(0, 0, 0), NONE);
        due("in a map without a layer", new Run().follow(5, 15, 0), 0);
    }

    @Sentence(of = FOLLOW, says = "1 for the steps until a key is met for the second time (NONE if a hole is met)")
    static void followUntilTheSecondMeeting() {
        due("one step on a cycle of one", one("15>15").follow(0, 15, 1), 1);
        due("two steps on a cycle of two", one("0>15,15>0").follow(0, 0, 1), 2);
        due("16 steps on a cycle of 16", CYCLE.onNew().follow(1, 9, 1), 16);
        due("a way of one step to a cycle of two", one("0>1,1>2,2>1").follow(0, 0, 1), 3);
        Run x = longestWay();
        x.setEntry(1, 0, 15, 15);
        due("a way of 15 steps to a cycle of one", x.follow(1, 0, 1), 16);
        x.setEntry(1, 0, 15, 8);
        due("a way of 8 steps to a cycle of 8", x.follow(1, 0, 1), 16);
        due("the key itself is a hole", one("1>2").follow(0, 0, 1), NONE);
        due("a hole behind one step", one("0>1").follow(0, 0, 1), NONE);
        due("a hole behind 15 steps", longestWay().follow(1, 0, 1), NONE);
        due("a way that leads nowhere", one("0>1,1>-").follow(0, 0, 1), NONE);
    }

    @Sentence(of = FOLLOW, says = "2 for the length of the cycle that is met (NONE likewise)")
    static void followToACycle() {
        due("of one", one("15>15").follow(0, 15, 2), 1);
        due("of two", one("0>15,15>0").follow(0, 0, 2), 2);
        due("of 16", CYCLE.onNew().follow(1, 9, 2), 16);
        due("of two, behind one step", one("0>1,1>2,2>1").follow(0, 0, 2), 2);
        Run x = longestWay();
        x.setEntry(1, 0, 15, 15);
        due("of one, behind 15 steps", x.follow(1, 0, 2), 1);
        x.setEntry(1, 0, 15, 1);
        due("of 15, behind one step", x.follow(1, 0, 2), 15);
        due("not the longest one, but the one that is met", one("0>1,1>0,5>6,6>7,7>5").follow(0, 0, 2), 2);
        due("the key itself is a hole", one("1>1").follow(0, 0, 2), NONE);
        due("a hole behind one step", one("0>1").follow(0, 0, 2), NONE);
        due("a hole behind 15 steps", longestWay().follow(1, 0, 2), NONE);
    }

    @Sentence(of = FOLLOW, says = "Returns the number; UNKNOWN;")
    static void followOfNoKey() {
        for (int map : NO_MAPS) {
            refused("follow in " + map, UNKNOWN, Sentences::filled, x -> x.follow(map, 0, 0));
            refused("follow in " + map, UNKNOWN, Sentences::filled, x -> x.follow(map, 0, 3));
        }
        for (int key : NO_KEYS) {
            refused("follow from " + key, UNKNOWN, Sentences::filled, x -> x.follow(0, key, 0));
            refused("follow from " + key, UNKNOWN, Sentences::filled, x -> x.follow(5, key, 2));
        }
    }

    @Sentence(of = FOLLOW, says = "BAD_VALUE.")
    static void followToNoSuchThing() {
        for (int what : new int[] {-1, 3, Integer.MIN_VALUE, Integer.MAX_VALUE, 256, 65536}) {
            refused("follow(0, 0, " + what + ")", BAD_VALUE, Sentences::filled, x -> x.follow(0, 0, what));
            refused("follow(3, 0, " + what + ")", BAD_VALUE, Sentences::filled, x -> x.follow(3, 0, what));
        }
    }

    // ---- after

    @Sentence(of = AFTER, says = "- `map`: 0 to 5")
    static void afterInTheFirstAndTheLastMap() {
        Run x = numbered();
        for (int map = 0; map < 6; map++) {
            due("in " + map, x.after(map, 0, 1), 9 - map);
        }
    }

    @Sentence(of = AFTER, says = "- `key`: a key")
    static void afterFromTheFirstAndTheLastKey() {
        Run x = CYCLE.onNew();
        for (int key = 0; key < 16; key++) {
            due("from " + key, x.after(1, key, 1), (key + 1) % 16);
        }
    }

    @Sentence(of = AFTER, says = "- `steps`: 0 to 1000000")
    static void stepsAre0To1000000() {
        Run x = CYCLE.onNew();
        due("no step", x.after(1, 15, 0), 15);
        due("one step", x.after(1, 15, 1), 0);
        due("999999 steps", x.after(1, 0, 999999), 999999 % 16);
        due("1000000 steps", x.after(1, 1, 1000000), 1000001 % 16);
        Run y = one("0>1,1>2,2>3,3>1");
        due("1000000 steps by a way to a cycle of three", y.after(0, 0, 1000000), 1 + 999999 % 3);
        due("999999 steps", y.after(0, 0, 999999), 1 + 999998 % 3);
        Run z = one("0>0,15>15,14>15");
        due("1000000 steps on the spot, the first key", z.after(0, 0, 1000000), 0);
        due("1000000 steps on the spot, the last key", z.after(0, 15, 1000000), 15);
        due("1000000 steps to the spot", z.after(0, 14, 1000000), 15);
    }

    @Sentence(of = AFTER, says = "Returns the key to which the map leads in so many steps;")
    static void afterTellsTheKey() {
        Run x = longestWay();
        x.setEntry(1, 0, 15, 10);
        for (int steps = 0; steps <= 80; steps++) {
            due(steps + " steps by a way to a cycle of six", x.after(1, 0, steps),
                steps < 16 ? steps : 10 + (steps - 10) % 6);
        }
        for (int steps = 0; steps <= 40; steps++) {
            due(steps + " steps on the spot", one("0>0").after(0, 0, steps), 0);
        }
        Run y = CYCLE.onNew();
        for (int steps = 0; steps <= 80; steps++) {
            due(steps + " steps on a cycle of 16", y.after(1, 7, steps), (7 + steps) % 16);
        }
    }

    @Sentence(of = AFTER, says = "UNKNOWN;")
    static void afterOfNoKey() {
        for (int map : NO_MAPS) {
            refused("after in " + map, UNKNOWN, Sentences::filled, x -> x.after(map, 0, 0));
            refused("after in " + map, UNKNOWN, Sentences::filled, x -> x.after(map, 0, -1));
        }
        for (int key : NO_KEYS) {
            refused("after from " + key, UNKNOWN, Sentences::filled, x -> x.after(0, key, 0));
            refused("after from " + key, UNKNOWN, Sentences::filled, x -> x.after(5, key, 1000001));
        }
    }

    @Sentence(of = AFTER, says = "BAD_VALUE;")
    static void afterNoSuchSteps() {
        for (int steps : new int[] {-1, 1000001, Integer.MIN_VALUE, Integer.MAX_VALUE}) {
            refused("after(0, 0, " + steps + ")", BAD_VALUE, Sentences::filled, x -> x.after(0, 0, steps));
            refused("after(3, 0, " + steps + ")", BAD_VALUE, Sentences::filled, x -> x.after(3, 0, steps));
        }
    }

    @Sentence(of = AFTER, says = "NONE if a hole is met.")
    static void afterAHole() {
        refused("a step from a hole", NONE, Sentences::filled, x -> x.after(0, 7, 1));
        refused("many steps from a hole", NONE, Sentences::filled, x -> x.after(3, 15, 1000000));
        Run x = longestWay();
        due("the last step that there is", x.after(1, 0, 15), 15);
        due("one step more", x.after(1, 0, 16), NONE);
        due("two steps more", x.after(1, 0, 17), NONE);
        due("1000000 steps", x.after(1, 0, 1000000), NONE);
        due("a step from what leads nowhere", one("15>-").after(0, 15, 1), NONE);
        due("no step from what leads nowhere", one("15>-").after(0, 15, 0), 15);
    }

    // ---- differ

    @Sentence(of = DIFFER, says = "- `map`: 0 to 5")
    static void differOfTheFirstAndTheLastMap() {
        Run x = new Run();
        for (int map = 0; map < 6; map++) {
            x.push(map, "9>9," + map + ">1");
        }
        for (int map = 0; map < 6; map++) {
            due("of " + map + " and C", x.differ(map, 2), map == 2 ? 0 : 4 | 1 << map);
        }
    }

    @Sentence(of = DIFFER, says = "- `other`: 0 to 5")
    static void differFromTheFirstAndTheLastMap() {
        Run x = new Run();
        for (int map = 0; map < 6; map++) {
            x.push(map, "9>9," + map + ">1");
        }
        for (int map = 0; map < 6; map++) {
            for (int other = 0; other < 6; other++) {
                due("of " + map + " and " + other, x.differ(map, other), map == other ? 0 : 1 << map | 1 << other);
            }
        }
    }

    @Sentence(of = DIFFER, says = "Returns the keys whose values differ (as bits; a hole differs from any value);")
    static void differTellsTheKeys() {
        Run x = new Run();
        due("two without a layer", x.differ(0, 1), 0);
        x.push(0, "0>0,15>15,3>-,4>-,5>1,6>2");
        due("a value and a hole", x.differ(0, 1), 1 + (1 << 15) + 32 + 64);
        due("a hole and a value", x.differ(1, 0), 1 + (1 << 15) + 32 + 64);
        x.push(1, "0>0,15>14,3>3,5>1,6>-");
        due("15, 3 and 6", x.differ(0, 1), (1 << 15) + 8 + 64);
        x.assign("C=A");
        due("the same values, other entries", x.differ(0, 2), 0);
        x.assign("D=D^0");
        due("none and all", x.differ(3, 4), ALL_KEYS);
    }

    @Sentence(of = DIFFER, says = "UNKNOWN.")
    static void differOfNoMap() {
        for (int map : NO_MAPS) {
            refused("differ(" + map + ", 0)", UNKNOWN, Sentences::filled, x -> x.differ(map, 0));
            refused("differ(5, " + map + ")", UNKNOWN, Sentences::filled, x -> x.differ(5, map));
            refused("differ of " + map + " twice", UNKNOWN, Sentences::filled, x -> x.differ(map, map));
        }
    }

    // ---- count

    @Sentence(of = COUNT, says = "- `what`: 0 for the rule")
    static void countTellsTheRule() {
        Run x = new Run();
        due("at first", x.count(0), 0);
        for (int rule : new int[] {2, 1, 0}) {
            x.setRule(rule);
            due("the rule", x.count(0), rule);
        }
        x.setRule(3);
        due("not one that is refused", x.count(0), 0);
    }

    @Sentence(of = COUNT, says = "1 for the layers of all maps")
    static void countTellsTheLayers() {
        Run x = new Run();
        due("none", x.count(1), 0);
        x.write("0>1");
        for (int layers = 1; layers <= 24; layers++) {
            x.push(layers % 6);
            due("layers", x.count(1), layers);
        }
        x.turn(5, 3, false);
        due("those that are off, too", x.count(1), 24);
        x.pop(5);
        x.flatten(0);
        due("20", x.count(1), 20);
    }

    @Sentence(of = COUNT, says = "2 for the entries of all layers")
    static void countTellsTheEntries() {
        Run x = new Run();
        due("none", x.count(2), 0);
        x.push(0, "0>1,15>-");
        x.push(0, "0>1,1>-");
        x.push(5, "15>-");
        due("shadowed ones, and those that lead nowhere", x.count(2), 5);
        x.turn(0, 0, false);
        due("of layers that are off, too", x.count(2), 5);
        x.pop(0);
        due("not of one that was taken off", x.count(2), 3);
        for (int map = 0; map < 6; map++) {
            x.assign((char) ('A' + map) + "=A^0");
        }
        due("96", x.count(2), 96);
        x.assign("F=F{15}");
        due("81", x.count(2), 81);
    }

    @Sentence(of = COUNT, says = "3 for shadowed entries of all maps")
    static void countTellsTheShadowedEntries() {
        Run x = new Run();
        due("none", x.count(3), 0);
        x.write("0>1,15>-");
        for (int map = 0; map < 6; map++) {
            x.push(map);
            due("none of one layer more", x.count(3), 2 * map);
            x.push(map);
            due("two of two layers more", x.count(3), 2 * map + 2);
        }
        x.push(5);
        due("two of three", x.count(3), 14);
        x.turn(5, 2, false);
        due("none by one that is off", x.count(3), 12);
        x.turn(0, 0, false);
        due("none of one that is off", x.count(3), 10);
    }

    @Sentence(of = COUNT, says = "4 for maps that are the same as one with a lower number (by their values)")
    static void countTellsTheRepeatedMaps() {
        Run x = new Run();
        due("all but the first one", x.count(4), 5);
        for (int map = 0; map < 5; map++) {
            x.push(map, "15>" + map);
            due("one less", x.count(4), 4 - map);
        }
        x.push(5, "15>-");
        due("none", x.count(4), 0);
        x.push(5, "15>0");
        due("the last one is as the first one", x.count(4), 1);
        x.push(4, "15>0,0>-");
        due("by its values, not by its entries", x.count(4), 2);
        x.push(0, "0>0");
        due("E and F are the same", x.count(4), 1);
        x.push(3, "15>1");
        due("B and D, E and F", x.count(4), 2);
    }

    @Sentence(of = COUNT, says = "5 for the states in the history")
    static void countTellsTheStates() {
        Run x = new Run();
        due("none", x.count(5), 0);
        for (int acts = 1; acts <= 6; acts++) {
            x.hide(0, 1);
            due("no more than four", x.count(5), Math.min(acts, 4));
        }
        x.undo();
        due("three", x.count(5), 3);
        x.keep();
        due("a snapshot is none of them", x.count(5), 3);
    }

    @Sentence(of = COUNT, says = "6 for the length of the text")
    static void countTellsTheLengthOfTheText() {
        Run x = new Run();
        due("none", x.count(6), 0);
        for (int length = 1; length <= 62; length++) {
            x.type('~');
            due("no more than 60", x.count(6), Math.min(length, 60));
        }
        x.clearText();
        due("none", x.count(6), 0);
    }

    @Sentence(of = COUNT, says = "Returns the number; BAD_VALUE.")
    static void countOfNoSuchThing() {
        for (int what : new int[] {-1, 7, Integer.MIN_VALUE, Integer.MAX_VALUE, 256, 65536}) {
            refused("count(" + what + ")", BAD_VALUE, Sentences::filled, x -> x.count(what));
        }
    }
}
