/** Promises 12 to 16 and 24: the text, the history and the snapshot, and what an expression gives. */
final class TextSentences extends Sentences {
    private static final String TYPE = "Promise 12: type";
    private static final String CLEAR = "Promise 13: clearText";
    private static final String UNDO = "Promise 14: undo";
    private static final String KEEP = "Promise 15: keep";
    private static final String RESTORE = "Promise 16: restore";
    private static final String GIVES = "Promise 24: gives";

    // ---- type and clearText

    @Sentence(of = TYPE, says = "Types a character behind the text.")
    static void typeAddsBehindTheText() {
        Run x = new Run();
        String text = "0>1,15>-";
        for (int i = 0; i < text.length(); i++) {
            x.type(text.charAt(i));
        }
        due("it is read in this order", x.push(0), 1);
        due("the first entry", x.entry(0, 0, 0), 1);
        due("the last entry", x.entry(0, 0, 15), NOWHERE);
        x.type('5');
        due("behind the text", x.push(0), fault(8));
    }

    @Sentence(of = TYPE, says = "- `character`: any character")
    static void anyCharacterIsTyped() {
        char[] characters = {0, 1, 9, 10, 13, 31, ' ', '!', 'A', 'z', 127, 128, 255, 256, 305, 0x7fff, 0x8000,
            0xd800, 0xdfff, 0xfffe, 0xffff};
        Run x = new Run();
        for (int i = 0; i < characters.length; i++) {
            due("the character " + (int) characters[i], x.type(characters[i]), i + 1);
        }
        for (char character : characters) {
            if (character != 'A') {
                Run y = new Run();
                y.type(character);
                due("it is no letter A to F", y.assign(), fault(0));
                due("it is no key", y.push(0), fault(0));
            }
        }
        for (char character : "0>A=B/.~^{},()-".toCharArray()) {
            Run y = new Run();
            y.write("A=B");
            y.type((char) (character + 256));
            due("it is not the character that has its lower half", y.gives(0), fault(3));
        }
    }

    @Sentence(of = TYPE, says = "Returns the length of the text then;")
    static void typeTellsTheLength() {
        Run x = new Run();
        for (int length = 1; length <= 60; length++) {
            due("type", x.type('~'), length);
        }
        x.clearText();
        due("the first one again", x.type('~'), 1);
    }

    @Sentence(of = TYPE, says = "FULL if it has 60 characters.")
    static void typeBehind60Characters() {
        Calls sixty = x -> {
            filled(x);
            x.write("A=" + "B/".repeat(28) + "A~");
        };
        due("60 characters", sixty.onNew().count(6), 60);
        refused("type", FULL, sixty, x -> x.type('~'));
        refused("type twice", FULL, sixty.then(x -> x.type('A')), x -> x.type((char) 0));
        Calls fewer = x -> x.write("A=" + "B/".repeat(28) + "A");
        due("59 characters have room", fewer.onNew().type('~'), 60);
    }

    @Sentence(of = CLEAR, says = "Empties the text.")
    static void clearTextEmptiesTheText() {
        Run x = new Run();
        x.write("A=A^0");
        x.clearText();
        due("no character", x.count(6), 0);
        due("its fault", x.gives(0), fault(0));
        x.type('A');
        due("nothing is left behind it", x.gives(0), fault(1));
        x.type('=');
        due("nothing is left behind it", x.gives(0), fault(2));
        x.write("~".repeat(60));
        x.clearText();
        for (int length = 1; length <= 60; length++) {
            due("room for 60", x.type('~'), length);
        }
    }

    @Sentence(of = CLEAR, says = "Returns the length that it had.")
    static void clearTextTellsTheLength() {
        Run x = new Run();
        due("empty", x.clearText(), 0);
        for (int length : new int[] {1, 2, 59, 60}) {
            x.write("~".repeat(length));
            due("length", x.clearText(), length);
            due("empty then", x.clearText(), 0);
        }
        x.write("~".repeat(65));
        due("no more than 60", x.clearText(), 60);
    }

    // ---- history

    @Sentence(of = UNDO, says = "Removes and restores the latest state of the history.")
    static void undoGoesBackByOneState() {
        Run x = new Run();
        for (int rule : new int[] {1, 2, 0, 1}) {
            x.setRule(rule);
        }
        for (int rule : new int[] {0, 2, 1, 0}) {
            x.undo();
            due("the rule before", x.count(0), rule);
        }
        Calls before = y -> {
            filled(y);
            y.undo();
        };
        Calls redone = before.then(y -> {
            y.setEntry(0, 0, 15, 1);
            y.undo();
        });
        due("nothing is left of an act", Whole.of(before).equals(Whole.of(redone)));
    }

    @Sentence(of = UNDO, says = "Returns the number of states that are left;")
    static void undoTellsTheStatesThatAreLeft() {
        for (int acts = 1; acts <= 6; acts++) {
            Run x = new Run();
            for (int i = 0; i < acts; i++) {
                x.hide(0, 1);
            }
            for (int left = Math.min(acts, 4) - 1; left >= 0; left--) {
                due("left of " + acts, x.undo(), left);
                due("states in the history", x.count(5), left);
            }
        }
    }

    @Sentence(of = UNDO, says = "NONE if the history is empty.")
    static void undoOfAnEmptyHistory() {
        refused("a new object", NONE, x -> x.clearText(), Run::undo);
        refused("all undone", NONE, x -> {
            filled(x);
            for (int i = 0; i < 4; i++) {
                x.undo();
            }
        }, Run::undo);
        refused("no act but a snapshot and a text", NONE, x -> {
            x.keep();
            x.write("A=A");
        }, Run::undo);
    }

    @Sentence(of = KEEP, says = "Takes a snapshot of the state, in place of the one that was.")
    static void keepTakesTheStateAsItIs() {
        Calls first = Sentences::filled;
        Calls other = first.then(x -> {
            x.keep();
            x.assign("A=B");
            x.hide(4, 48);
            x.write("D=A~/B");
        });
        String want = Whole.state(other.then(x -> x.ask(0)).then(Run::undo));
        Calls kept = other.then(x -> {
            x.keep();
            x.setRule(2);
            x.flatten(5);
            x.ask(0);
            x.ask(1);
        });
        due("restore, then an undone act", Whole.state(kept.then(Run::restore).then(x -> x.ask(0)).then(Run::undo))
            .equals(want));
        due("what is done later is not in the snapshot", kept.then(x -> {
            x.restore();
            x.setEntry(0, 0, 0, 9);
            x.restore();
        }).onNew().get(0, 0), 5);
    }

    @Sentence(of = KEEP, says = "Returns the layers of all maps together.")
    static void keepTellsTheLayersOfAllMaps() {
        Run x = new Run();
        due("none", x.keep(), 0);
        x.write("0>1");
        for (int layers = 1; layers <= 24; layers++) {
            x.push(layers % 6);
            due("layers of all maps", x.keep(), layers);
        }
        x.turn(0, 0, false);
        due("those that are off, too", x.keep(), 24);
        Run y = new Run();
        y.keep();
        due("it is no act", y.count(5), 0);
    }

    @Sentence(of = RESTORE, says = "Restores the state of the snapshot, which stays.")
    static void restoreLeavesTheSnapshot() {
        Run x = new Run();
        x.push(0, "0>1");
        x.hide(0, 63);
        x.keep();
        for (int times = 0; times < 5; times++) {
            x.setEntry(0, 0, 0, 9);
            x.ask(0);
            x.setRule(1);
            x.push(3);
            due("restore", x.restore(), 1);
            due("the value", x.get(0, 0), 1);
            due("the rule", x.count(0), 0);
            due("nothing was asked", x.hidden(1), 0);
            due("all are suspects", x.hidden(0), 63);
        }
        due("of what is so already", x.restore(), 1);
    }

    @Sentence(of = RESTORE, says = "This is an act.")
    static void restoreIsAnAct() {
        Calls before = x -> {
            withRoom(x);
            x.setRule(2);
            x.hide(4, 16);
        };
        recorded("restore of another state", 9, before, Run::restore);
        recorded("restore of what is so already", 9, Sentences::withRoom, Run::restore);
    }

    @Sentence(of = RESTORE, says = "Returns the layers of all maps together then;")
    static void restoreTellsTheLayersOfAllMaps() {
        Run x = new Run();
        x.keep();
        x.push(0, "0>1");
        due("none", x.restore(), 0);
        for (int layers = 1; layers <= 24; layers++) {
            x.push(layers % 6);
        }
        x.turn(0, 0, false);
        x.keep();
        x.pop(0);
        x.pop(5);
        due("24 of all maps", x.restore(), 24);
        due("one is off", x.map(0, 1), 3);
    }

    @Sentence(of = RESTORE, says = "NONE if there is no snapshot.")
    static void restoreOfNoSnapshot() {
        refused("a new object", NONE, x -> x.clearText(), Run::restore);
        refused("after acts and undo", NONE, x -> {
            x.push(0, "0>1");
            x.push(0);
            x.undo();
        }, Run::restore);
    }

    // ---- gives

    private static void someMaps(Run x) {
        x.push(0, "0>1,1>2,15>0,14>15,3>-");
        x.push(5, "0>15,15>14");
    }

    @Sentence(of = GIVES, says = "Tells what the expression of the text gives.")
    static void givesTellsAndChangesNothing() {
        Calls before = x -> {
            filled(x);
            x.write("A=B^0");
        };
        Check.nothingChanged("gives", before, x -> due("gives", x.gives(7), 7));
        Run x = new Run();
        someMaps(x);
        x.write("A=A");
        due("by what A is", x.gives(0), 1);
        x.setEntry(0, 0, 0, 9);
        due("by what A is then", x.gives(0), 9);
        x.write("B=F");
        due("by the text as it is", x.gives(0), 15);
        x.type('~');
        due("by the text as it is then", x.gives(15), 0);
    }

    @Sentence(of = GIVES, says = "- `key`: a key")
    static void givesOfTheFirstAndTheLastKey() {
        Run x = new Run();
        x.write("A=B^0");
        for (int key = 0; key < 16; key++) {
            due("gives", x.gives(key), key);
        }
    }

    @Sentence(of = GIVES, says = "Returns its value;")
    static void givesTellsTheValue() {
        Run x = new Run();
        someMaps(x);
        x.write("A=F.A");
        due("the value of the first key, by 15", x.gives(0), 0);
        due("the value of the last key, by 14", x.gives(15), 15);
    }

    @Sentence(of = GIVES, says = "UNKNOWN;")
    static void givesOfNoKey() {
        for (int key : NO_KEYS) {
            refused("gives(" + key + ")", UNKNOWN, Sentences::filled, x -> x.gives(key));
            refused("gives(" + key + ") of a fault", UNKNOWN, x -> x.write("A="), x -> x.gives(key));
        }
    }

    @Sentence(of = GIVES, says = "-100 minus the fault of the text, read as an expression, if it has one (which is an error);")
    static void givesOfAFault() {
        String[] texts = {"", "0>1", "G=A", "A", "A=", "A=?", "A=B/", "A=((((((", "B=A{16}", "A=" + "B/".repeat(29)};
        int[] faults = {0, 0, 0, 1, 2, 2, 4, 6, 5, 60};
        for (int i = 0; i < texts.length; i++) {
            String text = texts[i];
            refused("gives of " + text, fault(faults[i]), x -> {
                filled(x);
                x.write(text);
            }, x -> x.gives(0));
            due("of a hole likewise", new Run().gives(text, 15), fault(faults[i]));
        }
    }

    @Sentence(of = GIVES, says = "NONE if it is a hole.")
    static void givesOfAHole() {
        Calls before = x -> {
            someMaps(x);
            x.write("A=A");
        };
        refused("nowhere", NONE, before, x -> x.gives(3));
        refused("no entry", NONE, before, x -> x.gives(13));
        refused("of a map without a layer", NONE, x -> x.write("A=C"), x -> x.gives(0));
        refused("by a restriction", NONE, x -> x.write("A=C^0{0}"), x -> x.gives(15));
    }
}
