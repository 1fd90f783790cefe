/** Promises 8, 12, 13 and 24: the text, the faults of expressions, and what they give. */
public final class TextsTest {
    private static final int UNKNOWN = -1;
    private static final int FULL = -3;
    private static final int NONE = -5;

    public static void main(String[] args) {
        type();
        clearText();
        faults();
        brackets();
        gives();
        overlay();
        compose();
        inverses();
        powers();
        restrictions();
        order();
        Check.end("TextsTest");
    }

    private static void type() {
        PileMaps x = new PileMaps();
        for (int i = 1; i <= 60; i++) {
            Check.due("type", x.type((char) (i * 1000)), i);
        }
        Check.due("type: full", x.type('A'), FULL);
        Check.due("type: full", x.type('A'), FULL);
        Check.due("type: length", x.count(6), 60);
        Check.due("type: no act", x.count(5), 0);
        x.clearText();
        Check.due("type: least character", x.type(Character.MIN_VALUE), 1);
        Check.due("type: greatest character", x.type(Character.MAX_VALUE), 2);
        Check.due("type: fault", x.gives(0), -100);
        PileMaps y = new PileMaps();
        Check.write(y, "A=B" + "~".repeat(57));
        Check.due("type: 60 characters are read", y.gives(0), NONE);
        Check.due("type: a character that is refused is not in the text", y.type('?'), FULL);
        Check.due("type: a character that is refused is not in the text", y.gives(0), NONE);
        Check.write(y, "A=B" + "~".repeat(56) + "^");
        Check.due("type: the fault behind the last character", y.gives(0), -160);
        Check.write(y, "A=B\u0141");
        Check.due("type: a character above 255 is not its lower half", y.gives(0), -103);
        Check.write(y, "\u0141=B");
        Check.due("type: a character above 255 is not its lower half", y.gives(0), -100);
    }

    private static void clearText() {
        PileMaps x = new PileMaps();
        Check.due("clearText: empty", x.clearText(), 0);
        Check.write(x, "A=B");
        Check.due("clearText", x.clearText(), 3);
        Check.due("clearText: no act", x.count(5), 0);
        Check.due("clearText: length", x.count(6), 0);
        Check.due("clearText: nothing stays", x.gives(0), -100);
        Check.write(x, "A");
        Check.due("clearText: nothing stays behind the text", x.gives(0), -101);
        Check.write(x, "Q".repeat(60));
        Check.due("clearText: full", x.clearText(), 60);
        Check.due("clearText: again", x.clearText(), 0);
    }

    private static void faults() {
        String[] texts = {"", "A", "A=", "G=A", "a=A", "@=A", "A=G", "A=a", "A=@", "AA", "A:A", "A=A=", "A=AB", "A=A B",
            " A=A", "A =A", "A=A/", "A=A.", "A=/A", "A=.A", "A=A//A", "A=A./A", "A=A^", "A=A^/", "A=A^A", "A=A^12",
            "A=A^:", "A=^1", "A=~", "A=~A", "A=A{", "A=A{}", "A=A{,", "A=A{1", "A=A{1,", "A=A{1,}", "A=A{1,,", "A=A{16}",
            "A=A{15}", "A=A{20}", "A=A{01}", "A=A{00}", "A=A{0}", "A=A{-}", "A=A{1>2}", "A=A{1}}", "A=A{1}{", "A={1}",
            "A=A)", "A=()", "A=(", "A=(A", "A=(A))", "A=(A)A", "A=(A)(A)", "A=A(A)", "A=(A/)", "A=(A.)", "A=((A)",
            "A=(A/B).C~^3{1,2}", "A=A~~^0^9{0,0}", "A=A{9,10,11,12,13,14,15}", "A=A{1 }", "A=A{1;2}", "A=A{100}",
            "A=A}", "A=1", "A=A1", "B=F", "A=A{17}", "A=A{1\u0130}"};
        int[] due = {0, 1, 2, 0, 0, 0, 2, 2, 2, 1, 1, 3, 3, 3,
            0, 1, 4, 4, 2, 2, 4, 4, 4, 4, 4, 5,
            4, 2, 2, 2, 4, 4, 4, 5, 6, 6, 6, 5,
            -1, 5, 5, 5, -1, 4, 5, 6, 7, 2,
            3, 3, 3, 4, 5, 5, 5, 3, 5, 5, 6,
            -1, -1, -1, 5, 5, 6,
            3, 2, 3, -1, 5, 5};
        PileMaps x = new PileMaps();
        for (int i = 0; i < texts.length; i++) {
            int fault = -100 - due[i];
            Check.write(x, texts[i]);
            Check.due("gives '" + texts[i] + "'", x.gives(0), due[i] < 0 ? givenOfEmpty(texts[i]) : fault);
            Check.due("'" + texts[i] + "' is not changed", x.count(6), texts[i].length());
            PileMaps y = new PileMaps();
            Check.write(y, texts[i]);
            Check.due("assign '" + texts[i] + "'", y.assign(), due[i] < 0 ? entriesOfEmpty(texts[i]) : fault);
            Check.due("assign '" + texts[i] + "': recorded", y.count(5), due[i] < 0 ? 1 : 0);
        }
    }

    /** Of empty maps only the text with "^0" gives a value, and that for the key 0 alone. */
    private static int givenOfEmpty(String text) {
        return text.contains("^0") ? 0 : NONE;
    }

    private static int entriesOfEmpty(String text) {
        return text.contains("^0") ? 1 : 0;
    }

    private static void brackets() {
        PileMaps x = new PileMaps();
        Check.due("4 brackets", Check.gives(x, "A=((((A))))", 0), NONE);
        Check.due("5 brackets", Check.gives(x, "A=(((((A)))))", 0), -106);
        Check.due("5 brackets, not all open", Check.gives(x, "A=((((A)))).((((B))))", 0), NONE);
        Check.due("a fourth one anew", Check.gives(x, "A=((((A).(B))))", 0), NONE);
        Check.due("a fifth one later", Check.gives(x, "A=((((A.(B))))", 0), -108);
        Check.due("4 brackets and one more", Check.gives(x, "A=((((A))))/(B)", 0), NONE);
        Check.due("a closing one too many", Check.gives(x, "A=((((A)))))", 0), -111);
        Check.due("ends too early", Check.gives(x, "A=((((A)))", 0), -110);
        Check.due("ends with open ones", Check.gives(x, "A=((((", 0), -106);
        Check.due("no bracket behind a factor", Check.gives(x, "A=(A)(", 0), -105);
    }

    private static void gives() {
        PileMaps x = new PileMaps();
        Check.push(x, 0, "0>1,1>2,15>0");
        int history = x.count(5);
        String before = Check.whole(x);
        Check.write(x, "B=A");
        Check.due("gives", x.gives(0), 1);
        Check.due("gives", x.gives(15), 0);
        Check.due("gives: hole", x.gives(2), NONE);
        Check.due("gives: unknown", x.gives(16), UNKNOWN);
        Check.due("gives: unknown", x.gives(-1), UNKNOWN);
        Check.due("gives: no act", x.count(5), history);
        Check.due("gives: assigns nothing", x.map(1, 0), 0);
        Check.write(x, "B=");
        Check.due("gives: fault", x.gives(0), -102);
        Check.due("gives: unknown before fault", x.gives(16), UNKNOWN);
        Check.write(x, "0>1,1>2,15>0");
        Check.due("gives: changes nothing", before.equals(Check.whole(x)));
    }

    private static PileMaps filled() {
        PileMaps x = new PileMaps();
        Check.push(x, 0, "0>1,1>2,2>3,3>4,5>-,6>6");
        Check.push(x, 1, "0>9,1>8,4>7,5>5,6>-,8>1");
        Check.push(x, 2, "0>7,4>7,9>7,3>2,12>15,15>0");
        return x;
    }

    private static void values(String what, PileMaps x, String text, int... pairs) {
        int[] want = new int[16];
        java.util.Arrays.fill(want, NONE);
        for (int i = 0; i < pairs.length; i += 2) {
            want[pairs[i]] = pairs[i + 1];
        }
        Check.write(x, text);
        for (int key = 0; key < 16; key++) {
            Check.due(what + " " + text + ": " + key, x.gives(key), want[key]);
        }
        x.clearText();
        int number = Check.assign(x, "F" + text.substring(1));
        Check.due(what + " " + text + ": assigned", number, pairs.length / 2);
        for (int key = 0; key < 16; key++) {
            Check.due(what + " " + text + ": assigned " + key, x.get(5, key), want[key]);
        }
        x.undo();
    }

    private static void overlay() {
        PileMaps x = filled();
        values("overlay", x, "A=A/B", 0, 1, 1, 2, 2, 3, 3, 4, 4, 7, 5, 5, 6, 6, 8, 1);
        values("overlay", x, "A=B/A", 0, 9, 1, 8, 2, 3, 3, 4, 4, 7, 5, 5, 6, 6, 8, 1);
        values("overlay", x, "A=A/B/C", 0, 1, 1, 2, 2, 3, 3, 4, 4, 7, 5, 5, 6, 6, 8, 1, 9, 7, 12, 15, 15, 0);
        values("overlay", x, "A=D/E", new int[0]);
        values("overlay", x, "A=(B{0}/C)/A", 0, 9, 1, 2, 2, 3, 3, 2, 4, 7, 6, 6, 9, 7, 12, 15, 15, 0);
    }

    private static void compose() {
        PileMaps x = filled();
        values("compose", x, "A=A.B", 0, 8, 3, 7);
        values("compose", x, "A=B.A", 8, 2);
        values("compose", x, "A=A.A.A", 0, 3, 1, 4, 6, 6);
        values("compose", x, "A=A.B.A", new int[0]);
        values("compose", x, "A=B.B.A", 1, 2);
        values("compose", x, "A=A.D", new int[0]);
    }

    private static void inverses() {
        PileMaps x = filled();
        values("inverse, rule 0", x, "A=C~", 2, 3, 15, 12, 0, 15);
        x.setRule(1);
        values("inverse, rule 1", x, "A=C~", 2, 3, 15, 12, 0, 15, 7, 0);
        x.setRule(2);
        values("inverse, rule 2", x, "A=C~", 2, 3, 15, 12, 0, 15, 7, 9);
        values("inverse twice", x, "A=C~~", 3, 2, 12, 15, 15, 0, 9, 7);
        x.setRule(0);
        values("inverse twice", x, "A=C~~", 3, 2, 12, 15, 15, 0);
        PileMaps y = new PileMaps();
        Check.push(y, 0, "0>3,1>3,2>3,3>3,4>5,5>5");
        values("inverse of two and of four", y, "B=A~", new int[0]);
        y.setRule(1);
        values("inverse of two and of four", y, "B=A~", 3, 0, 5, 4);
        y.setRule(2);
        values("inverse of two and of four", y, "B=A~", 3, 3, 5, 5);
    }

    private static void powers() {
        PileMaps x = filled();
        int[] same = new int[32];
        for (int i = 0; i < 32; i++) {
            same[i] = i / 2;
        }
        values("power", x, "A=A^0", same);
        values("power", x, "A=D^0", same);
        values("power", x, "A=A^1", 0, 1, 1, 2, 2, 3, 3, 4, 6, 6);
        values("power", x, "A=A^2", 0, 2, 1, 3, 2, 4, 6, 6);
        values("power", x, "A=A^4", 0, 4, 6, 6);
        values("power", x, "A=A^5", 6, 6);
        values("power", x, "A=A^9", 6, 6);
        values("power of a power", x, "A=A^2^2", 0, 4, 6, 6);
        values("power of nothing", x, "A=A{0}^0^9", same);
        PileMaps y = new PileMaps();
        Check.push(y, 0, "14>15,15>0,0>14");
        values("power at the last key", y, "A=A^2", 14, 0, 15, 14, 0, 15);
        values("inverse at the last key", y, "A=A~", 15, 14, 0, 15, 14, 0);
        values("dot at the last key", y, "A=A.A{15,0}", 14, 0, 15, 14);
        values("restrict at the last key", y, "A=A{14}", 14, 15);
        values("power of a cycle", cycle(), "A=A^9", 0, 1, 1, 2, 2, 3, 3, 0);
        values("power of a cycle", cycle(), "A=A^8", 0, 0, 1, 1, 2, 2, 3, 3);
    }

    private static PileMaps cycle() {
        PileMaps x = new PileMaps();
        Check.push(x, 0, "0>1,1>2,2>3,3>0");
        return x;
    }

    private static void restrictions() {
        PileMaps x = filled();
        values("restrict", x, "A=A{0}", 0, 1);
        values("restrict", x, "A=A{6,3,7,15}", 3, 4, 6, 6);
        values("restrict", x, "A=C{15,12,1,15}", 12, 15, 15, 0);
        values("restrict", x, "A=A{0,1,2}{1,2,3}", 1, 2, 2, 3);
        values("restrict", x, "A=A{10,11,12,13,14,15}", new int[0]);
        values("restrict and inverse", x, "A=C{0}~", 7, 0);
        values("inverse and restrict", x, "A=C~{0}", 0, 15);
    }

    private static void order() {
        PileMaps x = filled();
        values("signs from the first one on", x, "A=A{0,1}^2", 0, 2);
        values("signs from the first one on", x, "A=A^2{0,1}", 0, 2, 1, 3);
        values("signs bind the factor alone", x, "A=A.A~", 0, 0, 1, 1, 2, 2, 3, 3, 6, 6);
        values("dot before slash", x, "A=A/B.C", 0, 1, 1, 2, 2, 3, 3, 4, 6, 6);
        values("dot before slash", x, "A=B.C/A", 0, 7, 1, 2, 2, 3, 3, 4, 6, 6);
        values("brackets before dot", x, "A=B.(C/A)", 0, 7, 8, 2);
        values("signs behind brackets", x, "A=(A{0,1}/B{8}).A^0", 0, 1, 1, 2, 8, 1);
        values("signs behind brackets", x, "A=(A{0,1}/B{8})^2", 0, 2, 8, 2);
        values("deep brackets", x, "A=((((A).A)/B)~/D){3}", 3, 1);
        values("both sides in brackets", x, "A=(A.(B/(C/(D))))/(C/(B))",
            0, 8, 1, 8, 2, 2, 3, 7, 4, 7, 5, 5, 8, 1, 9, 7, 12, 15, 15, 0);
    }
}
