/** Promises 7 to 9: maps that become one layer, and the rule of inverses. */
final class FlatSentences extends Sentences {
    private static final String FLATTEN = "Promise 7: flatten";
    private static final String ASSIGN = "Promise 8: assign";
    private static final String RULE = "Promise 9: setRule";

    // ---- flatten

    @Sentence(of = FLATTEN, says = "Makes a map one layer, with an entry for each key that has a value.")
    static void flattenMakesOneLayer() {
        Run x = new Run();
        x.push(0, "0>1,1>2,2>-,15>15");
        x.push(0, "1>-,3>0");
        x.push(0, "0>9,4>4");
        x.turn(0, 2, false);
        x.flatten(0);
        due("one layer", x.map(0, 0), 1);
        due("which is on", x.layer(0, 0, 1), 1);
        for (int key = 0; key < 16; key++) {
            int want = key == 0 ? 1 : key == 3 ? 0 : key == 15 ? 15 : ABSENT;
            due("entry of " + key, x.entry(0, 0, key), want);
            due("value of " + key, x.get(0, key), want == ABSENT ? NONE : want);
        }
        due("no second layer", x.entry(0, 1, 0), UNKNOWN);
    }

    @Sentence(of = FLATTEN, says = "This is an act.")
    static void flattenIsAnAct() {
        recorded("of three layers", 4, Sentences::withRoom, x -> x.flatten(0));
        recorded("of four layers", 1, Sentences::withRoom, x -> x.flatten(5));
        recorded("of one layer that is off", 0, y -> {
            withRoom(y);
            y.turn(2, 0, false);
        }, x -> x.flatten(2));
    }

    @Sentence(of = FLATTEN, says = "- `map`: 0 to 5")
    static void flattenTheFirstAndTheLastMap() {
        for (int map = 0; map < 6; map++) {
            Run x = new Run();
            x.write("0>1");
            for (int other = 0; other < 6; other++) {
                x.push(other);
                x.push(other);
            }
            due("flatten", x.flatten(map), 1);
            for (int other = 0; other < 6; other++) {
                due("layers of " + other, x.map(other, 0), other == map ? 1 : 2);
            }
        }
    }

    @Sentence(of = FLATTEN, says = "Returns how many entries it has then;")
    static void flattenTellsTheEntries() {
        Run x = new Run();
        x.push(0, "0>-,15>-");
        due("none", x.flatten(0), 0);
        x.assign("B=B^0");
        x.push(1, "0>0");
        due("16", x.flatten(1), 16);
        x.push(1, "0>-,15>-,7>-");
        due("13", x.flatten(1), 13);
        x.turn(1, 0, false);
        due("none of a layer that is off", x.flatten(1), 0);
        x.push(2, "0>1,2>2");
        x.push(2, "0>2");
        due("each key once", x.flatten(2), 2);
    }

    @Sentence(of = FLATTEN, says = "UNKNOWN;")
    static void flattenNoMap() {
        for (int map : NO_MAPS) {
            refused("flatten(" + map + ")", UNKNOWN, Sentences::filled, x -> x.flatten(map));
        }
    }

    @Sentence(of = FLATTEN, says = "NONE if it is so already (one layer,")
    static void flattenOfOneLayer() {
        refused("one layer", NONE, Sentences::filled, x -> x.flatten(2));
        refused("one layer without an entry", NONE, x -> x.assign("F=A"), x -> x.flatten(5));
        refused("one layer that was flattened", NONE, y -> {
            filled(y);
            y.flatten(0);
        }, x -> x.flatten(0));
        Run x = new Run();
        x.push(0, "0>1");
        x.push(0, "1>1");
        due("two layers are not so", x.flatten(0), 2);
    }

    @Sentence(of = FLATTEN, says = "which is on,")
    static void flattenOfOneLayerThatIsOff() {
        Run x = new Run();
        x.push(0, "0>1,1>1");
        x.turn(0, 0, false);
        due("one that is off is not so", x.flatten(0), 0);
        due("it is on then", x.layer(0, 0, 1), 1);
        due("without entries", x.layer(0, 0, 0), 0);
        due("it is so now", x.flatten(0), NONE);
        x.turn(0, 0, false);
        due("an empty one that is off is not so", x.flatten(0), 0);
        due("it is on then", x.layer(0, 0, 1), 1);
    }

    @Sentence(of = FLATTEN, says = "without entries that lead nowhere,")
    static void flattenOfEntriesThatLeadNowhere() {
        Run x = new Run();
        x.push(0, "0>1,15>-");
        due("one that leads nowhere is not so", x.flatten(0), 1);
        due("it has no entry for it then", x.entry(0, 0, 15), ABSENT);
        due("it is so now", x.flatten(0), NONE);
        x.setEntry(0, 0, 0, NOWHERE);
        due("none but one that leads nowhere", x.flatten(0), 0);
        due("it is so now", x.flatten(0), NONE);
    }

    @Sentence(of = FLATTEN, says = "or no layer at all).")
    static void flattenOfNoLayer() {
        refused("no layer", NONE, Sentences::filled, x -> x.flatten(3));
        refused("of a new object", NONE, x -> x.clearText(), x -> x.flatten(0));
        Run x = new Run();
        x.push(0, "0>1,1>-");
        x.pop(0);
        due("no layer any more", x.flatten(0), NONE);
        due("still none", x.map(0, 0), 0);
    }

    // ---- assign

    @Sentence(of = ASSIGN, says = "Makes a map what the expression of the text, which stays, gives:")
    static void assignLeavesTheText() {
        Run x = new Run();
        x.push(0, "0>1,1>2,2>3,3>3");
        due("A is its own second power", x.assign("A=A.A"), 4);
        due("the text stays", x.count(6), 5);
        due("0 leads to 2", x.get(0, 0), 2);
        due("the same text, with what A is now", x.assign(), 4);
        due("0 leads to 3", x.get(0, 0), 3);
        due("the text stays", x.count(6), 5);
        due("only A is made", x.count(1), 1);
        x.write("A=A.");
        x.assign();
        due("a text with a fault stays too", x.count(6), 4);
    }

    @Sentence(of = ASSIGN, says = "one layer, with an entry for each key that has a value")
    static void assignMakesOneLayer() {
        Run x = new Run();
        x.push(5, "0>1,15>-");
        x.push(5, "1>0,2>2");
        x.push(5, "1>9");
        x.push(5, "7>7");
        x.turn(5, 3, false);
        x.turn(5, 0, false);
        due("assign", x.assign("F=F~"), 2);
        due("one layer", x.map(5, 0), 1);
        due("which is on", x.layer(5, 0, 1), 1);
        for (int key = 0; key < 16; key++) {
            due("entry of " + key, x.entry(5, 0, key), key == 9 ? 1 : key == 2 ? 2 : ABSENT);
        }
        due("no second layer", x.layer(5, 1, 0), UNKNOWN);
    }

    @Sentence(of = ASSIGN, says = "(also if none has).")
    static void assignOfNoValueMakesALayerToo() {
        Run x = new Run();
        due("no entry", x.assign("C=D"), 0);
        due("a layer", x.map(2, 0), 1);
        due("which is on", x.layer(2, 0, 1), 1);
        due("which has no entry", x.layer(2, 0, 0), 0);
        x.push(3, "0>-,15>-");
        due("of a map that leads nowhere", x.assign("D=D"), 0);
        due("it has no entry", x.layer(3, 0, 0), 0);
        due("all are holes", x.map(3, 2), ALL_KEYS);
    }

    @Sentence(of = ASSIGN, says = "This is an act.")
    static void assignIsAnAct() {
        recorded("to a map without a layer", 4, Sentences::withRoom, Run::assign);
        String[] texts = {"A=B", "F=A^0", "B=B", "C=D", "F=F"};
        int[] entries = {2, 16, 2, 0, 1};
        for (int i = 0; i < texts.length; i++) {
            String text = texts[i];
            recorded(text, entries[i], y -> {
                withRoom(y);
                y.write(text);
            }, Run::assign);
        }
    }

    @Sentence(of = ASSIGN, says = "Returns how many entries it has;")
    static void assignTellsTheEntries() {
        Run x = new Run();
        x.push(0, "0>1,15>0,3>-");
        due("none", x.assign("B=C"), 0);
        due("one", x.assign("B=A{0}"), 1);
        due("two", x.assign("B=A"), 2);
        due("15", x.assign("B=C^0{0,1,2,3,4,5,6,7,8,9,10,11,12,13,14}"), 15);
        due("16", x.assign("B=C^0"), 16);
    }

    @Sentence(of = ASSIGN, says = "-100 minus the fault of the text, read as an expression, if it has one (which is an error).")
    static void assignOfAFault() {
        String[] texts = {"", "0>1", "G=A", "A", "A=", "A=?", "A=B/", "A=((((((", "B=A{16}", "A=" + "B/".repeat(29)};
        int[] faults = {0, 0, 0, 1, 2, 2, 4, 6, 5, 60};
        for (int i = 0; i < texts.length; i++) {
            String text = texts[i];
            refused("assign of " + text, fault(faults[i]), x -> {
                filled(x);
                x.write(text);
            }, Run::assign);
        }
    }

    // ---- setRule

    @Sentence(of = RULE, says = "Sets the rule of inverses.")
    static void setRuleSetsTheRule() {
        Run x = new Run();
        x.push(0, "1>5,2>5,3>5");
        x.write("B=A~");
        int[] values = {NONE, 1, 3};
        for (int rule : new int[] {2, 1, 0, 1, 2, 0}) {
            x.setRule(rule);
            due("the rule", x.count(0), rule);
            due("the inverse by it", x.gives(5), values[rule]);
        }
        x.assign("B=A~");
        x.setRule(1);
        due("what was assigned before stays", x.map(1, 3), 0);
    }

    @Sentence(of = RULE, says = "This is an act.")
    static void setRuleIsAnAct() {
        recorded("to 2", 1, Sentences::withRoom, x -> x.setRule(2));
        recorded("to 0", 1, Sentences::withRoom, x -> x.setRule(0));
    }

    @Sentence(of = RULE, says = "- `rule`: 0 to 2")
    static void rulesAre0To2() {
        Run x = new Run();
        due("the greatest one", x.setRule(2), 0);
        due("the one between", x.setRule(1), 2);
        due("the least one", x.setRule(0), 1);
    }

    @Sentence(of = RULE, says = "Returns the previous one;")
    static void setRuleTellsThePreviousOne() {
        Run x = new Run();
        int before = 0;
        for (int rule : new int[] {1, 0, 2, 1, 2, 0}) {
            due("before it was " + rule, x.setRule(rule), before);
            before = rule;
        }
    }

    @Sentence(of = RULE, says = "BAD_VALUE;")
    static void noSuchRule() {
        for (int rule : new int[] {-1, 3, Integer.MIN_VALUE, Integer.MAX_VALUE, 256, 65536}) {
            refused("setRule(" + rule + ")", BAD_VALUE, Sentences::filled, x -> x.setRule(rule));
        }
    }

    @Sentence(of = RULE, says = "NONE if it is so already.")
    static void setRuleOfWhatIsSoAlready() {
        refused("1", NONE, Sentences::filled, x -> x.setRule(1));
        refused("0 of a new object", NONE, x -> x.clearText(), x -> x.setRule(0));
        refused("2", NONE, x -> x.setRule(2), x -> x.setRule(2));
    }
}
