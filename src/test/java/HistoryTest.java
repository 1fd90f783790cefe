/** Promises 14 to 16, and what every act records. */
public final class HistoryTest {
    private static final int NONE = -5;

    public static void main(String[] args) {
        undo();
        atMostFour();
        everyAct();
        notTheText();
        whatWasKnown();
        keep();
        restore();
        snapshotStays();
        Check.end("HistoryTest");
    }

    private static void undo() {
        Run x = new Run();
        Check.due("undo: empty", x.undo(), NONE);
        x.push(0, "0>1");
        x.push(0, "0>2");
        x.setRule(1);
        Check.due("undo: left", x.undo(), 2);
        Check.due("undo: rule", x.count(0), 0);
        Check.due("undo: value", x.get(0, 0), 2);
        Check.due("undo: left", x.undo(), 1);
        Check.due("undo: value", x.get(0, 0), 1);
        Check.due("undo: layers", x.map(0, 0), 1);
        Check.due("undo: left", x.undo(), 0);
        Check.due("undo: value", x.get(0, 0), NONE);
        Check.due("undo: empty", x.undo(), NONE);
        Check.due("undo: empty", x.count(5), 0);
        x.setRule(2);
        Check.due("undo: recorded anew", x.undo(), 0);
    }

    private static void atMostFour() {
        Run x = new Run();
        x.push(0, "0>0");
        for (int value = 1; value <= 9; value++) {
            Check.due("set", x.setEntry(0, 0, 0, value), value - 1);
            Check.due("at most four", x.count(5), Math.min(4, value + 1));
        }
        for (int left = 3; left >= 0; left--) {
            Check.due("undo: left", x.undo(), left);
            Check.due("undo: value", x.get(0, 0), 5 + left);
        }
        Check.due("undo: the others are dropped", x.undo(), NONE);
        Check.due("undo: NONE changes nothing", x.get(0, 0), 5);
        for (int value = 10; value < 16; value++) {
            x.setEntry(0, 0, 1, value);
        }
        x.undo();
        x.undo();
        x.setEntry(0, 0, 1, 0);
        Check.due("undo after acts after undos", x.undo(), 2);
        Check.due("undo after acts after undos", x.get(0, 1), 13);
        Check.due("undo after acts after undos", x.undo(), 1);
        Check.due("undo after acts after undos", x.get(0, 1), 12);
    }

    private static void fill(Run x) {
        x.push(0, "0>1,1>2,2>0,5>-");
        x.push(0, "0>3,7>7");
        x.push(1, "3>4");
        x.turn(1, 0, false);
        x.hide(0, 7);
        x.ask(4);
        x.write("A=B");
    }

    private static Run filled() {
        Run x = new Run();
        fill(x);
        return x;
    }

    private static int act(Run x, int number) {
        switch (number) {
            case 0:
                x.clearText();
                x.write("0>1");
                return x.push(2);
            case 1: return x.pop(0);
            case 2: return x.turn(0, 1, false);
            case 3: return x.lift(0, 0, 1);
            case 4: return x.setEntry(0, 1, 0, 16);
            case 5: return x.flatten(0);
            case 6: return x.assign();
            case 7: return x.setRule(2);
            case 8: return x.hide(1, 3);
            case 9: return x.ask(0);
            default: return x.restore();
        }
    }

    private static void everyAct() {
        for (int number = 0; number < 11; number++) {
            Calls before = number == 10 ? HistoryTest::fillAndKeep : HistoryTest::fill;
            int which = number;
            Calls acted = before.then(x -> {
                Check.due("act " + which + " is no error", act(x, which) >= 0);
                x.write("A=B");
            });
            Calls undone = acted.then(x -> Check.due("act " + which + " is recorded", x.undo(), 3));
            // one state was dropped for the act, and an act that changes nothing else brings the number back
            Calls filledUp = undone.then(x -> {
                x.keep();
                x.restore();
            });
            Check.due("act " + which + " changes", !Whole.state(before).equals(Whole.state(acted)));
            Check.due("act " + which + " is undone", Whole.state(before).equals(Whole.state(filledUp)));
        }
    }

    private static void fillAndKeep(Run x) {
        fill(x);
        x.keep();
        x.setEntry(0, 0, 9, 9);
        x.setEntry(0, 0, 9, 8);
    }

    private static void notTheText() {
        Run x = new Run();
        x.push(0, "0>1");
        x.keep();
        x.write("1>1");
        x.undo();
        Check.due("undo leaves the text", x.count(6), 3);
        Check.due("undo leaves the text", x.push(0), 1);
        Check.due("undo leaves the text", x.get(0, 1), 1);
        x.write("12>12");
        Check.due("restore", x.restore(), 1);
        Check.due("restore leaves the text", x.count(6), 5);
        x.push(0);
        Check.due("restore leaves the text", x.get(0, 12), 12);
    }

    private static void whatWasKnown() {
        Run x = new Run();
        for (int map = 0; map < 6; map++) {
            x.push(map, "15>" + map);
        }
        x.hide(0, 63);
        x.keep();
        for (int map = 0; map < 6; map++) {
            x.pop(map);
        }
        x.hide(0, 63);
        Check.due("all the same", x.hidden(2), 1);
        x.undo();
        Check.due("undo brings back what was known", x.hidden(2), 0);
        Check.due("undo brings back what was known", x.split(15, 0), 6);
        x.hide(5, 63);
        x.restore();
        Check.due("restore brings back what was known", x.split(15, 0), 6);
        Check.due("restore brings back what was known", x.ask(15), 0);
        Check.due("restore brings back what was known", x.hidden(0), 1);
    }

    private static void keep() {
        Run x = new Run();
        Check.due("keep: no layer", x.keep(), 0);
        Check.due("keep: no act", x.count(5), 0);
        x.push(0, "0>1");
        x.push(0);
        x.push(5);
        Check.due("keep: layers of all maps", x.keep(), 3);
        Check.due("keep: no act", x.count(5), 3);
        x.pop(0);
        x.pop(0);
        x.pop(5);
        Check.due("restore: in place of the one that was", x.restore(), 3);
    }

    private static void restore() {
        Run x = filled();
        Check.due("restore: no snapshot", x.restore(), NONE);
        Check.due("restore: NONE is not recorded", x.undo(), 3);
        Calls kept = before -> {
            fill(before);
            before.setRule(1);
            before.keep();
        };
        Calls acted = kept.then(HistoryTest::actsThatChangeAll);
        Calls restored = acted.then(after -> {
            Check.due("restore: layers", after.restore(), 3);
            after.write("A=B");
        });
        Check.due("restore: all of the state", Whole.state(kept).equals(Whole.state(restored)));
        Run z = restored.onNew();
        Check.due("restore: it is an act", z.undo(), 3);
        Check.due("undo of restore: rule", z.count(0), 2);
        Check.due("undo of restore: hidden", z.hidden(0), 4);
        Run y = new Run();
        y.keep();
        Check.due("restore: of what is so already", y.restore(), 0);
        Check.due("restore: is an act also then", y.count(5), 1);
        y.hide(0, 1);
        y.restore();
        Check.due("restore: nothing hidden", y.hidden(0), -4);
    }

    private static void actsThatChangeAll(Run x) {
        x.setRule(2);
        x.hide(2, 4);
        x.flatten(0);
        x.assign("B=A~");
    }

    private static void snapshotStays() {
        Run x = new Run();
        x.push(3, "4>5");
        x.keep();
        x.setEntry(3, 0, 4, 6);
        x.restore();
        x.setEntry(3, 0, 4, 7);
        Check.due("the snapshot stays as it was", x.restore(), 1);
        Check.due("the snapshot stays as it was", x.get(3, 4), 5);
        x.undo();
        Check.due("undo of restore", x.get(3, 4), 7);
        x.undo();
        x.undo();
        x.undo();
        Check.due("undo leaves the snapshot", x.restore(), 1);
        Check.due("undo leaves the snapshot", x.get(3, 4), 5);
        x.pop(3);
        Check.due("keep: a new one", x.keep(), 0);
        x.undo();
        Check.due("undo leaves the new one", x.restore(), 0);
    }
}
