/** The parts of "Terms" about expressions and about texts. */
final class ExpressionSentences extends Sentences {
    private static final String EXPRESSIONS = "Terms: EXPRESSIONS";
    private static final String TEXTS = "Terms: TEXTS";

    /** The expression behind "A=" has its first fault there, told from the start of the text. */
    private static void faulty(String expression, int index) {
        Run x = new Run();
        x.write("A=" + expression);
        due("gives: fault of A=" + expression, x.gives(0), fault(index));
        due("assign: fault of A=" + expression, x.assign(), fault(index));
    }

    /** It has no fault; in empty maps nothing but "^0" gives a value. */
    private static void faultless(String expression) {
        Run x = new Run();
        x.write("A=" + expression);
        int value = x.gives(0);
        due("no fault of A=" + expression, value == 0 || value == NONE);
        due("no fault of A=" + expression, x.assign() >= 0);
    }

    private static void threeMaps(Run x) {
        x.push(0, "0>1,1>2,2>0,5>-,6>6,15>14");
        x.push(1, "0>9,1>8,5>5,14>15,15>-");
        x.push(2, "3>7,4>7,9>7,8>0,15>15");
    }

    private static void values(String text, int... pairs) {
        Check.values("values of", ExpressionSentences::threeMaps, text, pairs);
    }

    @Sentence(of = EXPRESSIONS, says = "An expression gives a map for itself (a value or a hole for each key).")
    static void anExpressionGivesAMapForItself() {
        Calls maps = ExpressionSentences::threeMaps;
        for (String text : new String[] {"A=D", "A=D^0", "A=A~/B.C{3}", "F=(A/B)^2"}) {
            Check.nothingChanged(text, maps.then(x -> x.write(text)), x -> {
                for (int key = 0; key < 16; key++) {
                    int value = x.gives(key);
                    due("a value or a hole", value >= 0 && value <= 15 || value == NONE);
                }
            });
        }
        Run x = maps.onNew();
        x.assign("F=(A/B){0}");
        due("the maps that are read stay as they are", x.get(0, 1) * 10 + x.get(1, 5), 25);
    }

    // ---- how an expression is written

    @Sentence(of = EXPRESSIONS, says = "It is one or more terms with \"/\" between two;")
    static void oneOrMoreTerms() {
        faulty("", 2);
        faulty("/A", 2);
        faulty("A/", 4);
        faulty("A//A", 4);
        faultless("A");
        faultless("A/B");
        values("A=" + "D/".repeat(28) + "C", 3, 7, 4, 7, 8, 0, 9, 7, 15, 15);
        faulty("A/".repeat(29), 60);
    }

    @Sentence(of = EXPRESSIONS, says = "a term is one or more factors with \".\" between two;")
    static void oneOrMoreFactors() {
        faulty(".A", 2);
        faulty("A.", 4);
        faulty("A..A", 4);
        faulty("A./A", 4);
        faulty("A/.A", 4);
        faultless("A.B");
        values("A=" + "A.".repeat(28) + "A", 0, 2, 1, 0, 2, 1, 6, 6);
        faulty("A.".repeat(29), 60);
    }

    @Sentence(of = EXPRESSIONS, says = "a factor is a letter A to F")
    static void aFactorIsALetter() {
        for (char letter = 'A'; letter <= 'F'; letter++) {
            faultless(String.valueOf(letter));
        }
        faulty("@", 2);
        faulty("G", 2);
        faulty("a", 2);
        faulty("f", 2);
        faulty("1", 2);
        faulty("AB", 3);
        faulty("A.G", 4);
        faulty("(G)", 3);
        faulty("" + (char) ('A' + 256), 2);
    }

    @Sentence(of = EXPRESSIONS, says = "or an expression in brackets")
    static void anExpressionInBrackets() {
        faultless("(A)");
        faultless("(A/B.C)");
        faulty("()", 3);
        faulty("(", 3);
        faulty("(A", 4);
        faulty("(A/", 5);
        faulty("(A/)", 5);
        faulty("(A))", 5);
        faulty(")", 2);
        faulty("A)", 3);
        faulty("A(B)", 3);
        faulty("(A)(B)", 5);
        faulty("(A)B", 5);
        values("A=(D/A).B", 0, 8, 2, 9, 15, 15);
        values("A=(A.B)", 0, 8, 2, 9, 15, 15);
        values("A=B.(A/C)", 0, 7, 1, 0, 14, 14);
        values("A=B.(A/(C.(B/(A.A))))", 1, 9, 14, 14);
        values("A=((((A.A)/B).C)/C).A/C", 3, 7, 4, 7, 8, 1, 9, 7, 14, 14, 15, 14);
    }

    @Sentence(of = EXPRESSIONS, says = "and then any number of signs behind it:")
    static void anyNumberOfSigns() {
        faultless("A");
        faultless("A" + "~".repeat(57));
        values("A=A" + "~".repeat(57), 1, 0, 2, 1, 0, 2, 6, 6, 14, 15);
        values("A=(A)" + "~".repeat(54), 0, 1, 1, 2, 2, 0, 6, 6, 15, 14);
        values("A=A" + "^1".repeat(28), 0, 1, 1, 2, 2, 0, 6, 6, 15, 14);
        values("A=A" + "{15}".repeat(14), 15, 14);
        faulty("~", 2);
        faulty("~A", 2);
        faulty("A.~", 4);
        faulty("A/{1}", 4);
        faulty("^1", 2);
        faulty("(~A)", 3);
    }

    @Sentence(of = EXPRESSIONS, says = "\"^\" and a digit from 0 to 9")
    static void aDigitBehindThePower() {
        for (int digit = 0; digit <= 9; digit++) {
            faultless("A^" + digit);
        }
        faulty("A^", 4);
        faulty("A^/", 4);
        faulty("A^:", 4);
        faulty("A^~", 4);
        faulty("A^A", 4);
        faulty("A^10", 5);
        faulty("A^00", 5);
        faulty("A^" + (char) ('0' + 256), 4);
    }

    @Sentence(of = EXPRESSIONS, says = "or \"{\", one or more keys with \",\" between two, and \"}\".")
    static void oneOrMoreKeysInCurlyBrackets() {
        faultless("A{0}");
        faultless("A{0,0}");
        faultless("A{0,1,2,3,4,5,6,7,8,9,10,11,12,13,14,15}");
        faultless("A{" + "1,".repeat(26) + "15}");
        faulty("A{", 4);
        faulty("A{}", 4);
        faulty("A{,1}", 4);
        faulty("A{1", 5);
        faulty("A{1,", 6);
        faulty("A{1,}", 6);
        faulty("A{1,,2}", 6);
        faulty("A{1}}", 6);
        faulty("A{-}", 4);
        faulty("A}", 3);
        faulty("A{1)", 5);
        faulty("A{" + "1,".repeat(28), 60);
    }

    @Sentence(of = EXPRESSIONS, says = "A key has one or two digits")
    static void aKeyHasOneOrTwoDigits() {
        Run x = new Run();
        due("one digit", x.push(0, "9>9"), 1);
        due("two digits", x.push(0, "10>15"), 2);
        due("no digit", x.push(0, ">1"), fault(0));
        due("three digits", x.push(0, "100>1"), fault(2));
        due("three digits of a value", x.push(0, "1>150"), fault(4));
        due("a second digit on its own behind a comma", x.push(0, "1,0>1"), fault(1));
        faulty("A{100}", 6);
        faulty("A{111}", 6);
        faultless("A{1,0}");
    }

    @Sentence(of = EXPRESSIONS, says = "without a zero in front unless it is the single digit 0")
    static void noZeroInFront() {
        Run x = new Run();
        due("the single digit 0", x.push(0, "0>0"), 1);
        due("0 behind 1", x.push(0, "10>10"), 2);
        due("00", x.push(0, "00>1"), fault(1));
        due("01", x.push(0, "01>1"), fault(1));
        due("09", x.push(0, "1>09"), fault(3));
        due("015", x.push(0, "1>015"), fault(3));
        faulty("A{00}", 5);
        faulty("A{05}", 5);
        faulty("A{1,01}", 7);
        faultless("A{0,10}");
    }

    @Sentence(of = EXPRESSIONS, says = "and is at most 15.")
    static void aKeyIsAtMost15() {
        for (int key = 0; key <= 15; key++) {
            Run x = new Run();
            due("a key up to 15", x.push(0, key + ">" + key), 1);
            due("it is this key", x.get(0, key), key);
            faultless("A{" + key + "}");
        }
        for (int number = 16; number <= 99; number++) {
            due("more than 15", new Run().push(0, number + ">1"), fault(1));
            faulty("A{" + number + "}", 5);
        }
        due("more than 15, as a value", new Run().push(0, "15>16"), fault(4));
    }

    @Sentence(of = EXPRESSIONS, says = "At most 4 brackets \"(\" are open at a time.")
    static void atMost4BracketsAreOpen() {
        faultless("((((A))))");
        faulty("(((((A)))))", 6);
        faultless("((((A).(B).(C))))");
        faultless("((((A))))/((((B))))");
        faultless("(A)/(A)/(A)/(A)/(A)/(A)");
        faultless("(((A).((B))))");
        faulty("((((A)).(((B)))))", 12);
        faulty("(A/(B/(C/(D/(E)))))", 14);
        values("A=((((A))))", 0, 1, 1, 2, 2, 0, 6, 6, 15, 14);
    }

    // ---- what an expression gives

    @Sentence(of = EXPRESSIONS, says = "\"x/y\": the value of a key is that in x,")
    static void theLeftOneOfAnOverlayComesFirst() {
        values("A=A/B", 0, 1, 1, 2, 2, 0, 5, 5, 6, 6, 14, 15, 15, 14);
        values("A=B/A", 0, 9, 1, 8, 2, 0, 5, 5, 6, 6, 14, 15, 15, 14);
        values("A=A/A", 0, 1, 1, 2, 2, 0, 6, 6, 15, 14);
    }

    @Sentence(of = EXPRESSIONS, says = "or, if it is a hole there, that in y.")
    static void theRightOneOfAnOverlayFillsHoles() {
        values("A=D/C", 3, 7, 4, 7, 8, 0, 9, 7, 15, 15);
        values("A=C/D", 3, 7, 4, 7, 8, 0, 9, 7, 15, 15);
        values("A=B/C", 0, 9, 1, 8, 3, 7, 4, 7, 5, 5, 8, 0, 9, 7, 14, 15, 15, 15);
        values("A=D/E");
        values("A=D/E/B{15,14}", 14, 15);
    }

    @Sentence(of = EXPRESSIONS, says = "\"x.y\": the value of a key is the value in y of its value in x")
    static void aCompositionLeadsOn() {
        values("A=A.B", 0, 8, 2, 9, 15, 15);
        values("A=B.C", 0, 7, 1, 0, 14, 15);
        values("A=A.A", 0, 2, 1, 0, 2, 1, 6, 6);
    }

    @Sentence(of = EXPRESSIONS, says = "a hole if there is none.")
    static void aCompositionThatEndsIsAHole() {
        values("A=B.A", 14, 14);
        values("A=A.D");
        values("A=D.A");
        values("A=C.B", 8, 9);
    }

    @Sentence(of = EXPRESSIONS, says = "\"x~\": the inverse by the rule (0 to 2, at first 0)")
    static void theRuleIs0AtFirst() {
        Run x = new Run();
        due("the rule of a new object", x.count(0), 0);
        due("it is so already", x.setRule(0), NONE);
        x.push(0, "1>3,2>3");
        due("the inverse is by rule 0", x.gives("A=A~", 3), NONE);
        due("the greatest rule", x.setRule(2), 0);
        due("no rule above", x.setRule(3), BAD_VALUE);
        due("no rule below", x.setRule(-1), BAD_VALUE);
    }

    @Sentence(of = EXPRESSIONS, says = "the value of a key k is the key whose value in x is k;")
    static void theInverseOfOneKey() {
        for (int rule = 0; rule <= 2; rule++) {
            int with = rule;
            Calls maps = x -> {
                threeMaps(x);
                x.setRule(with);
            };
            Check.values("inverse", maps, "A=A~", 0, 2, 1, 0, 2, 1, 6, 6, 14, 15);
            Check.values("inverse", maps, "A=B~", 5, 5, 8, 1, 9, 0, 15, 14);
            Check.values("inverse of no value", maps, "A=D~");
        }
    }

    private static Calls several(int rule) {
        return x -> {
            x.push(0, "0>3,7>3,15>3,4>15,5>15,9>0,10>0,11>0");
            x.push(0, "12>0,1>1");
            x.setRule(rule);
        };
    }

    @Sentence(of = EXPRESSIONS, says = "if there are several: by the rule 0 it is a hole,")
    static void severalByRule0() {
        Check.values("of three, two, four and one", several(0), "A=A~", 1, 1);
    }

    @Sentence(of = EXPRESSIONS, says = "by 1 the lowest one,")
    static void severalByRule1() {
        Check.values("of three, two, four and one", several(1), "A=A~", 3, 0, 15, 4, 0, 9, 1, 1);
    }

    @Sentence(of = EXPRESSIONS, says = "by 2 the highest one.")
    static void severalByRule2() {
        Check.values("of three, two, four and one", several(2), "A=A~", 3, 15, 15, 5, 0, 12, 1, 1);
    }

    @Sentence(of = EXPRESSIONS, says = "\"x^n\": the value of a key is that to which x leads in n steps, one behind the other")
    static void aPowerLeadsNSteps() {
        Calls cycle = Sentences::wholeCycle;
        for (int steps = 0; steps <= 9; steps++) {
            Run x = cycle.onNew();
            x.write("A=B^" + steps);
            for (int key = 0; key < 16; key++) {
                due(steps + " steps from " + key, x.gives(key), (key + steps) % 16);
            }
        }
        values("A=A^1", 0, 1, 1, 2, 2, 0, 6, 6, 15, 14);
        values("A=B^1", 0, 9, 1, 8, 5, 5, 14, 15);
        values("A=B.C^2", 14, 15);
    }

    @Sentence(of = EXPRESSIONS, says = "(of n 0: the key itself, also if it is a hole in x)")
    static void aPowerOfNoStepIsTheKeyItself() {
        for (String text : new String[] {"A=A^0", "A=D^0", "A=D{1}^0", "A=(A.D)^0"}) {
            Run x = new Run();
            threeMaps(x);
            x.write(text);
            for (int key = 0; key < 16; key++) {
                due(text + " of " + key, x.gives(key), key);
            }
            due("so many entries", x.assign(), 16);
        }
    }

    @Sentence(of = EXPRESSIONS, says = "a hole if any step meets one.")
    static void aPowerThatMeetsAHole() {
        values("A=A^2", 0, 2, 1, 0, 2, 1, 6, 6);
        values("A=B^2", 5, 5);
        values("A=B^9", 5, 5);
        values("A=D^1");
        values("A=D^9");
        values("A=C^2", 15, 15);
        // a step that leads to a hole is made; the one behind it would meet the hole
        values("A=A{0,1}^1", 0, 1, 1, 2);
        values("A=A{0,1}^2", 0, 2);
        values("A=A{0,1}^3");
    }

    @Sentence(of = EXPRESSIONS, says = "\"x{..}\": the value of a key is that in x if it is one of the keys that are told,")
    static void aRestrictionKeepsItsKeys() {
        values("A=A{0}", 0, 1);
        values("A=A{15}", 15, 14);
        values("A=A{15,0,15}", 0, 1, 15, 14);
        values("A=A{0,1,2,3,4,5,6,7,8,9,10,11,12,13,14,15}", 0, 1, 1, 2, 2, 0, 6, 6, 15, 14);
    }

    @Sentence(of = EXPRESSIONS, says = "otherwise it is a hole.")
    static void aRestrictionMakesHolesOfTheOthers() {
        values("A=A{3}");
        values("A=A{14}");
        values("A=A{5}/A{7}");
        values("A=A{1,2,3,4,5,6,7,8,9,10,11,12,13,14}", 1, 2, 2, 0, 6, 6);
        values("A=D^0{15}", 15, 15);
    }

    @Sentence(of = EXPRESSIONS, says = "Signs behind a factor are worked out from the first one to the last one;")
    static void signsFromTheFirstToTheLast() {
        values("A=A{0,1}^2", 0, 2);
        values("A=A^2{0,1}", 0, 2, 1, 0);
        values("A=B{0}~", 9, 0);
        values("A=B~{0}");
        values("A=A~^2{0}", 0, 1);
        values("A=A^0{3}~", 3, 3);
        values("A=(A/B){1}^1~", 2, 1);
    }

    @Sentence(of = EXPRESSIONS, says = "terms and factors from the left to the right.")
    static void termsAndFactorsFromTheLeft() {
        values("A=A.B.C", 0, 0, 2, 7, 15, 15);
        values("A=C.B.A");
        values("A=C/B/A", 0, 9, 1, 8, 2, 0, 3, 7, 4, 7, 5, 5, 6, 6, 8, 0, 9, 7, 14, 15, 15, 15);
        values("A=A/B.C", 0, 1, 1, 2, 2, 0, 6, 6, 14, 15, 15, 14);
        values("A=B.C/A", 0, 7, 1, 0, 2, 0, 6, 6, 14, 15, 15, 14);
        values("A=A.B~");
    }

    // ---- texts

    @Sentence(of = TEXTS, says = "There is a text of at most 60 characters,")
    static void aTextHasAtMost60Characters() {
        Run x = new Run();
        x.write("A=" + "D/".repeat(28) + "D^");
        due("60 characters", x.count(6), 60);
        due("its fault is its length", x.gives(0), fault(60));
        due("no 61st one", x.type('0'), FULL);
        due("still 60", x.count(6), 60);
        due("still its fault", x.gives(0), fault(60));
        x.write("A=" + "D/".repeat(27) + "D^0");
        due("59 characters", x.count(6), 59);
        due("without a fault", x.gives(15), 15);
        due("the 60th one", x.type('~'), 60);
        due("without a fault", x.gives(15), 15);
    }

    @Sentence(of = TEXTS, says = "empty at first.")
    static void theTextIsEmptyAtFirst() {
        Run x = new Run();
        due("no character", x.count(6), 0);
        due("its fault as a layer", x.push(0), fault(0));
        due("its fault as an expression", x.gives(0), fault(0));
        due("its fault as an expression", x.assign(), fault(0));
        due("no character to be taken away", x.clearText(), 0);
    }

    private static void layerFault(String text, int index) {
        due("fault of the layer " + text, new Run().push(0, text), fault(index));
    }

    @Sentence(of = TEXTS, says = "A text of a layer is one or more entries with \",\" between two;")
    static void oneOrMoreEntries() {
        layerFault("", 0);
        layerFault(",", 0);
        layerFault("0>1,", 4);
        layerFault("0>1,,1>2", 4);
        layerFault(",0>1", 0);
        layerFault("0>1;1>2", 3);
        layerFault("0>11>2", 4);
        layerFault("0>23>4", 3);
        layerFault("0>-1>2", 3);
        Run x = new Run();
        due("one entry", x.push(0, "0>1") + x.layer(0, 0, 0), 1 + 1);
        due("as many as the text has room for", x.push(0, "0>1,1>2,2>3,3>4,4>5,5>6,6>7,7>8,8>9,9>0,10>0,11>0,12>0,13>0"), 2);
        due("they are entries", x.layer(0, 1, 0), 14);
        due("15 of them", x.push(0, "0>1,".repeat(14) + "1>15"), 3);
        due("two keys", x.layer(0, 2, 0), 2);
    }

    @Sentence(of = TEXTS, says = "an entry is a key, \">\", and a key or \"-\" (nowhere).")
    static void anEntryIsAKeyAndAKeyOrNowhere() {
        layerFault("0", 1);
        layerFault("0-", 1);
        layerFault("0=1", 1);
        layerFault("0>", 2);
        layerFault("0>,", 2);
        layerFault("0>>1", 2);
        layerFault("0>--", 3);
        layerFault("0>-1", 3);
        layerFault("0>1-", 3);
        layerFault("->1", 0);
        layerFault("0>1>2", 3);
        layerFault("0> 1", 2);
        Run x = new Run();
        due("keys with two digits, and nowhere", x.push(0, "15>10,10>-,0>0"), 1);
        due("a key", x.entry(0, 0, 15), 10);
        due("nowhere", x.entry(0, 0, 10), NOWHERE);
        due("the key 0", x.entry(0, 0, 0), 0);
        due("no others", x.layer(0, 0, 0), 3);
    }

    @Sentence(of = TEXTS, says = "If a key has several entries, the last one counts.")
    static void theLastEntryOfAKeyCounts() {
        Run x = new Run();
        due("push", x.push(0, "0>1,0>2,15>-,15>3,7>4,7>-,0>3"), 1);
        due("of three the last one", x.entry(0, 0, 0), 3);
        due("nowhere does not count", x.entry(0, 0, 15), 3);
        due("nowhere counts", x.entry(0, 0, 7), NOWHERE);
        due("three keys have an entry", x.layer(0, 0, 0), 3);
        due("one leads nowhere", x.layer(0, 0, 3), 1);
    }

    @Sentence(of = TEXTS, says = "A text of an expression is a letter A to F, \"=\", and an expression.")
    static void aLetterAnEqualsSignAndAnExpression() {
        for (char letter = 'A'; letter <= 'F'; letter++) {
            due("the letter " + letter, new Run().assign(letter + "=B"), 0);
        }
        String[] texts = {"@=A", "G=A", "a=A", "=A", " A=A", "A", "AA", "A==A", "A:A", "A =A", "A=", "A", "1=A", "A=B=C"};
        int[] faults = {0, 0, 0, 0, 0, 1, 1, 2, 1, 1, 2, 1, 0, 3};
        for (int i = 0; i < texts.length; i++) {
            due("fault of " + texts[i], new Run().assign(texts[i]), fault(faults[i]));
            due("fault of " + texts[i], new Run().gives(texts[i], 0), fault(faults[i]));
        }
    }

    @Sentence(of = TEXTS, says = "The fault of the text, read as a layer or as an expression, is the index, from 0, "
        + "of the first character that is not allowed at its place")
    static void theFaultIsTheFirstCharacterNotAllowed() {
        layerFault("?", 0);
        layerFault("0?", 1);
        layerFault("0>1?,?", 3);
        layerFault("16>16", 1);
        layerFault("A=B", 0);
        faulty("?", 2);
        faulty("A?", 3);
        faulty("G.", 2);
        faulty("A{16}{17}", 5);
        faulty("A0>1", 3);
        faulty("A ", 3);
        faulty("A\0", 3);
        faulty("A\n", 3);
        faulty("A\uffff", 3);
        due("a layer is no expression", new Run().gives("0>1", 0), fault(0));
        due("the last of 60", new Run().push(0, "0>1,".repeat(14) + "10>?"), fault(59));
        due("the last of 60", new Run().assign("A=" + "B/".repeat(28) + "BB"), fault(59));
    }

    @Sentence(of = TEXTS, says = "(a digit by which a key would be more than 15,")
    static void aDigitThatMakesTooMuchIsTheFault() {
        layerFault("16>1", 1);
        layerFault("1>16", 3);
        layerFault("1>2,19>", 5);
        layerFault("20>1", 1);
        layerFault("99>1", 1);
        layerFault("150>1", 2);
        faulty("A{16}", 5);
        faulty("A{1,2,16}", 9);
        faulty("A{90", 5);
    }

    @Sentence(of = TEXTS, says = "and a fifth open bracket, too)")
    static void aFifthOpenBracketIsTheFault() {
        faulty("(((((", 6);
        faulty("(((((A", 6);
        faulty("((((A/(", 8);
        faulty("((((A)/(B.(", 12);
        faulty("((((", 6);
        faultless("((((A)/(B)).(C)))");
    }

    @Sentence(of = TEXTS, says = "or the length of the text if it ends too early.")
    static void theFaultIsTheLengthIfItEndsTooEarly() {
        String whole = "A=((A/B{10,1}).C^2)~";
        for (int length = 0; length < whole.length() - 1; length++) {
            due("the first " + length, new Run().gives(whole.substring(0, length), 0), fault(length));
        }
        faultless(whole.substring(2));
        faultless(whole.substring(2, whole.length() - 1));
        for (String text : new String[] {"A=B^", "A=B~^", "A=B{", "A=B{1", "A=B{15", "A=B{1,", "A=B/", "A=B.", "A=(",
            "A=(B", "A=(B~", "A=(B^1", "A=(B{1}"}) {
            due("the end of " + text, new Run().gives(text, 0), fault(text.length()));
        }
        layerFault("1", 1);
        layerFault("10", 2);
        layerFault("10>", 3);
        layerFault("10>1,", 5);
        layerFault("10>1,1", 6);
        due("the end of 60", new Run().push(0, "0>1,".repeat(15)), fault(60));
        due("the end of 60", new Run().assign("A=" + "B/".repeat(29)), fault(60));
    }
}
