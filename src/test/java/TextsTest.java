/** Promises 8, 12, 13 and 24: the text, the faults of expressions, and what they give. */
public final class TextsTest {
    private static final int UNKNOWN = -1;
    private static final int FULL = -3;
    private static final int NONE = -5;

    public static void main(String[] args) {
        type();
        clearText();
        faults();
        brackets();
        gives();
        overlay();
        compose();
        inverses();
        powers();
        restrictions();
        order();
        Check.end("TextsTest");
    }

    private static void type() {
        Run x = new Run();
        for (int i = 1; i <= 60; i++) {
            Check.due("type", x.type((char) (i * 1000)), i);
        }
        Check.due("type: full", x.type('A'), FULL);
        Check.due("type: full", x.type('A'), FULL);
        Check.due("type: length", x.count(6), 60);
        Check.due("type: no act", x.count(5), 0);
        x.clearText();
        Check.due("type: least character", x.type(Character.MIN_VALUE), 1);
        Check.due("type: greatest character", x.type(Character.MAX_VALUE), 2);
        Check.due("type: fault", x.gives(0), -100);
        Run y = new Run();
        y.write("A=B" + "~".repeat(57));
        Check.due("type: 60 characters are read", y.gives(0), NONE);
        Check.due("type: a character that is refused is not in the text", y.type('?'), FULL);
        Check.due("type: a character that is refused is not in the text", y.gives(0), NONE);
        y.write("A=B" + "~".repeat(56) + "^");
        Check.due("type: the fault behind the last character", y.gives(0), -160);
        y.write("A=B\u0141");
        Check.due("type: a character above 255 is not its lower half", y.gives(0), -103);
        y.write("\u0141=B");
        Check.due("type: a character above 255 is not its lower half", y.gives(0), -100);
    }

    private static void clearText() {
        Run x = new Run();
        Check.due("clearText: empty", x.clearText(), 0);
        x.write("A=B");
        Check.due("clearText", x.clearText(), 3);
        Check.due("clearText: no act", x.count(5), 0);
        Check.due("clearText: length", x.count(6), 0);
        Check.due("clearText: nothing stays", x.gives(0), -100);
        x.write("A");
        Check.due("clearText: nothing stays behind the text", x.gives(0), -101);
        x.write("Q".repeat(60));
        Check.due("clearText: full", x.clearText(), 60);
        Check.due("clearText: again", x.clearText(), 0);
    }

    private static void faults() {
        String[] texts = {"", "A", "A=", "G=A", "a=A", "@=A", "A=G", "A=a", "A=@", "AA", "A:A", "A=A=", "A=AB", "A=A B",
            " A=A", "A =A", "A=A/", "A=A.", "A=/A", "A=.A", "A=A//A", "A=A./A", "A=A^", "A=A^/", "A=A^A", "A=A^12",
            "A=A^:", "A=^1", "A=~", "A=~A", "A=A{", "A=A{}", "A=A{,", "A=A{1", "A=A{1,", "A=A{1,}", "A=A{1,,", "A=A{16}",
            "A=A{15}", "A=A{20}", "A=A{01}", "A=A{00}", "A=A{0}", "A=A{-}", "A=A{1>2}", "A=A{1}}", "A=A{1}{", "A={1}",
            "A=A)", "A=()", "A=(", "A=(A", "A=(A))", "A=(A)A", "A=(A)(A)", "A=A(A)", "A=(A/)", "A=(A.)", "A=((A)",
            "A=(A/B).C~^3{1,2}", "A=A~~^0^9{0,0}", "A=A{9,10,11,12,13,14,15}", "A=A{1 }", "A=A{1;2}", "A=A{100}",
            "A=A}", "A=1", "A=A1", "B=F", "A=A{17}", "A=A{1\u0130}"};
        int[] due = {0, 1, 2, 0, 0, 0, 2, 2, 2, 1, 1, 3, 3, 3,
            0, 1, 4, 4, 2, 2, 4, 4, 4, 4, 4, 5,
            4, 2, 2, 2, 4, 4, 4, 5, 6, 6, 6, 5,
            -1, 5, 5, 5, -1, 4, 5, 6, 7, 2,
            3, 3, 3, 4, 5, 5, 5, 3, 5, 5, 6,
            -1, -1, -1, 5, 5, 6,
            3, 2, 3, -1, 5, 5};
        for (int i = 0; i < texts.length; i++) {
            Run x = new Run();
            int fault = -100 - due[i];
            x.write(texts[i]);
            Check.due("gives '" + texts[i] + "'", x.gives(0), due[i] < 0 ? givenOfEmpty(texts[i]) : fault);
            Check.due("'" + texts[i] + "' is not changed", x.count(6), texts[i].length());
            Run y = new Run();
            y.write(texts[i]);
            Check.due("assign '" + texts[i] + "'", y.assign(), due[i] < 0 ? entriesOfEmpty(texts[i]) : fault);
            Check.due("assign '" + texts[i] + "': recorded", y.count(5), due[i] < 0 ? 1 : 0);
        }
    }

    /** Of empty maps only the text with "^0" gives a value, and that for the key 0 alone. */
    private static int givenOfEmpty(String text) {
        return text.contains("^0") ? 0 : NONE;
    }

    private static int entriesOfEmpty(String text) {
        return text.contains("^0") ? 1 : 0;
    }

    private static void brackets() {
        Run x = new Run();
        Check.due("4 brackets", x.gives("A=((((A))))", 0), NONE);
        Check.due("5 brackets", x.gives("A=(((((A)))))", 0), -106);
        Check.due("5 brackets, not all open", x.gives("A=((((A)))).((((B))))", 0), NONE);
        Check.due("a fourth one anew", x.gives("A=((((A).(B))))", 0), NONE);
        Check.due("a fifth one later", x.gives("A=((((A.(B))))", 0), -108);
        Check.due("4 brackets and one more", x.gives("A=((((A))))/(B)", 0), NONE);
        Check.due("a closing one too many", x.gives("A=((((A)))))", 0), -111);
        Check.due("ends too early", x.gives("A=((((A)))", 0), -110);
        Check.due("ends with open ones", x.gives("A=((((", 0), -106);
        Check.due("no bracket behind a factor", x.gives("A=(A)(", 0), -105);
    }

    private static void gives() {
        Check.nothingChanged("gives", x -> x.push(0, "0>1,1>2,15>0"), TextsTest::givesAndFails);
    }

    private static void givesAndFails(Run x) {
        int history = x.count(5);
        x.write("B=A");
        Check.due("gives", x.gives(0), 1);
        Check.due("gives", x.gives(15), 0);
        Check.due("gives: hole", x.gives(2), NONE);
        Check.due("gives: unknown", x.gives(16), UNKNOWN);
        Check.due("gives: unknown", x.gives(-1), UNKNOWN);
        Check.due("gives: no act", x.count(5), history);
        Check.due("gives: assigns nothing", x.map(1, 0), 0);
        x.write("B=");
        Check.due("gives: fault", x.gives(0), -102);
        Check.due("gives: unknown before fault", x.gives(16), UNKNOWN);
        x.write("0>1,1>2,15>0");
    }

    private static void fill(Run x) {
        x.push(0, "0>1,1>2,2>3,3>4,5>-,6>6");
        x.push(1, "0>9,1>8,4>7,5>5,6>-,8>1");
        x.push(2, "0>7,4>7,9>7,3>2,12>15,15>0");
    }

    private static void overlay() {
        Calls x = TextsTest::fill;
        Check.values("overlay", x, "A=A/B", 0, 1, 1, 2, 2, 3, 3, 4, 4, 7, 5, 5, 6, 6, 8, 1);
        Check.values("overlay", x, "A=B/A", 0, 9, 1, 8, 2, 3, 3, 4, 4, 7, 5, 5, 6, 6, 8, 1);
        Check.values("overlay", x, "A=A/B/C", 0, 1, 1, 2, 2, 3, 3, 4, 4, 7, 5, 5, 6, 6, 8, 1, 9, 7, 12, 15, 15, 0);
        Check.values("overlay", x, "A=D/E", new int[0]);
        Check.values("overlay", x, "A=(B{0}/C)/A", 0, 9, 1, 2, 2, 3, 3, 2, 4, 7, 6, 6, 9, 7, 12, 15, 15, 0);
    }

    private static void compose() {
        Calls x = TextsTest::fill;
        Check.values("compose", x, "A=A.B", 0, 8, 3, 7);
        Check.values("compose", x, "A=B.A", 8, 2);
        Check.values("compose", x, "A=A.A.A", 0, 3, 1, 4, 6, 6);
        Check.values("compose", x, "A=A.B.A", new int[0]);
        Check.values("compose", x, "A=B.B.A", 1, 2);
        Check.values("compose", x, "A=A.D", new int[0]);
    }

    private static void inverses() {
        Calls x = TextsTest::fill;
        Check.values("inverse, rule 0", x, "A=C~", 2, 3, 15, 12, 0, 15);
        Calls x1 = x.then(z -> z.setRule(1));
        Check.values("inverse, rule 1", x1, "A=C~", 2, 3, 15, 12, 0, 15, 7, 0);
        Calls x2 = x.then(z -> z.setRule(2));
        Check.values("inverse, rule 2", x2, "A=C~", 2, 3, 15, 12, 0, 15, 7, 9);
        Check.values("inverse twice", x2, "A=C~~", 3, 2, 12, 15, 15, 0, 9, 7);
        Check.values("inverse twice", x, "A=C~~", 3, 2, 12, 15, 15, 0);
        Calls y = z -> z.push(0, "0>3,1>3,2>3,3>3,4>5,5>5");
        Check.values("inverse of two and of four", y, "B=A~", new int[0]);
        Check.values("inverse of two and of four", y.then(z -> z.setRule(1)), "B=A~", 3, 0, 5, 4);
        Check.values("inverse of two and of four", y.then(z -> z.setRule(2)), "B=A~", 3, 3, 5, 5);
    }

    private static void powers() {
        Calls x = TextsTest::fill;
        int[] same = new int[32];
        for (int i = 0; i < 32; i++) {
            same[i] = i / 2;
        }
        Check.values("power", x, "A=A^0", same);
        Check.values("power", x, "A=D^0", same);
        Check.values("power", x, "A=A^1", 0, 1, 1, 2, 2, 3, 3, 4, 6, 6);
        Check.values("power", x, "A=A^2", 0, 2, 1, 3, 2, 4, 6, 6);
        Check.values("power", x, "A=A^4", 0, 4, 6, 6);
        Check.values("power", x, "A=A^5", 6, 6);
        Check.values("power", x, "A=A^9", 6, 6);
        Check.values("power of a power", x, "A=A^2^2", 0, 4, 6, 6);
        Check.values("power of nothing", x, "A=A{0}^0^9", same);
        Calls y = z -> z.push(0, "14>15,15>0,0>14");
        Check.values("power at the last key", y, "A=A^2", 14, 0, 15, 14, 0, 15);
        Check.values("inverse at the last key", y, "A=A~", 15, 14, 0, 15, 14, 0);
        Check.values("dot at the last key", y, "A=A.A{15,0}", 14, 0, 15, 14);
        Check.values("restrict at the last key", y, "A=A{14}", 14, 15);
        Calls cycle = z -> z.push(0, "0>1,1>2,2>3,3>0");
        Check.values("power of a cycle", cycle, "A=A^9", 0, 1, 1, 2, 2, 3, 3, 0);
        Check.values("power of a cycle", cycle, "A=A^8", 0, 0, 1, 1, 2, 2, 3, 3);
    }

    private static void restrictions() {
        Calls x = TextsTest::fill;
        Check.values("restrict", x, "A=A{0}", 0, 1);
        Check.values("restrict", x, "A=A{6,3,7,15}", 3, 4, 6, 6);
        Check.values("restrict", x, "A=C{15,12,1,15}", 12, 15, 15, 0);
        Check.values("restrict", x, "A=A{0,1,2}{1,2,3}", 1, 2, 2, 3);
        Check.values("restrict", x, "A=A{10,11,12,13,14,15}", new int[0]);
        Check.values("restrict and inverse", x, "A=C{0}~", 7, 0);
        Check.values("inverse and restrict", x, "A=C~{0}", 0, 15);
    }

    private static void order() {
        Calls x = TextsTest::fill;
        Check.values("signs from the first one on", x, "A=A{0,1}^2", 0, 2);
        Check.values("signs from the first one on", x, "A=A^2{0,1}", 0, 2, 1, 3);
        Check.values("signs bind the factor alone", x, "A=A.A~", 0, 0, 1, 1, 2, 2, 3, 3, 6, 6);
        Check.values("dot before slash", x, "A=A/B.C", 0, 1, 1, 2, 2, 3, 3, 4, 6, 6);
        Check.values("dot before slash", x, "A=B.C/A", 0, 7, 1, 2, 2, 3, 3, 4, 6, 6);
        Check.values("brackets before dot", x, "A=B.(C/A)", 0, 7, 8, 2);
        Check.values("signs behind brackets", x, "A=(A{0,1}/B{8}).A^0", 0, 1, 1, 2, 8, 1);
        Check.values("signs behind brackets", x, "A=(A{0,1}/B{8})^2", 0, 2, 8, 2);
        Check.values("deep brackets", x, "A=((((A).A)/B)~/D){3}", 3, 1);
        Check.values("both sides in brackets", x, "A=(A.(B/(C/(D))))/(C/(B))",
            0, 8, 1, 8, 2, 2, 3, 7, 4, 7, 5, 5, 8, 1, 9, 7, 12, 15, 15, 0);
    }
}
