/** All promises: long runs of calls, each answer compared with that of the model. */
public final class ModelTest {
    private static final int RUNS = 3000;

    private static long seed = 20261118;

    private Run x;
    private Model y;
    private int run;
    /** How often each method has answered no error, so that a run that reaches nothing is seen. */
    private static final int[] reached = new int[28];

    public static void main(String[] args) {
        for (int run = 0; run < RUNS; run++) {
            new ModelTest().play(run);
        }
        for (int method = 0; method < reached.length; method++) {
            Check.due("method " + method + " has often answered no error", reached[method] > 500);
        }
        Check.end("ModelTest");
    }

    private void play(int number) {
        x = new Run();
        y = new Model();
        run = number;
        if (below(4) > 0) {
            fill();
        }
        while (x.callsLeft() > 0) {
            int kind = below(40);
            if (kind < 2) {
                typeText();
            } else if (kind < 23) {
                act();
            } else {
                tell();
            }
        }
    }

    private void fill() {
        for (int map = 0; map < 6; map++) {
            if (below(3) > 0) {
                write(layerText());
            }
            for (int layers = below(4); layers > 0; layers--) {
                call(0, map, 0, 0, 0);
                call(4, map, below(3), below(16), below(18));
            }
        }
    }

    // ---- numbers

    private static int below(int bound) {
        seed = seed * 6364136223846793005L + 1442695040888963407L;
        return (int) ((seed >>> 33) % bound);
    }

    /** Mostly from 0 to the last one, now and then one beyond. */
    private static int about(int last) {
        int odd = below(60);
        if (odd == 0) {
            return -1;
        }
        if (odd == 1) {
            return last + 1;
        }
        if (odd == 2) {
            return below(2) == 0 ? Integer.MAX_VALUE : Integer.MIN_VALUE;
        }
        return below(last + 1);
    }

    // ---- texts

    private static String layerText() {
        StringBuilder text = new StringBuilder();
        int keys = below(3) == 0 ? 4 : 16;
        int entries = 1 + below(9);
        for (int i = 0; i < entries; i++) {
            text.append(i == 0 ? "" : ",").append(below(keys)).append('>');
            text.append(below(5) == 0 ? "-" : String.valueOf(below(keys)));
        }
        return text.toString();
    }

    private static String expression(int depth) {
        StringBuilder text = new StringBuilder();
        int terms = 1 + below(3);
        for (int i = 0; i < terms; i++) {
            text.append(i == 0 ? "" : below(2) == 0 ? "/" : ".");
            if (depth > 0 && below(2) == 0) {
                text.append('(').append(expression(depth - 1)).append(')');
            } else {
                text.append((char) ('A' + below(6)));
            }
            for (int signs = below(3); signs > 0; signs--) {
                text.append(sign());
            }
        }
        return text.toString();
    }

    private static String sign() {
        int kind = below(3);
        if (kind == 0) {
            return "~";
        }
        if (kind == 1) {
            return "^" + (below(3) == 0 ? below(10) : below(3));
        }
        StringBuilder text = new StringBuilder("{");
        for (int left = below(5); left > 0; left--) {
            text.append(below(16)).append(',');
        }
        return text.append(below(16)).append('}').toString();
    }

    private static String spoilt(String text) {
        String signs = "ABCDEFG0123456789/.~^{},()=>- a\u0141";
        StringBuilder spoilt = new StringBuilder(text);
        int at = below(text.length() + 1);
        char sign = signs.charAt(below(signs.length()));
        int kind = below(3);
        if (kind == 0) {
            spoilt.insert(at, sign);
        } else if (at < text.length() && kind == 1) {
            spoilt.setCharAt(at, sign);
        } else {
            spoilt.setLength(at);
        }
        return spoilt.toString();
    }

    private void typeText() {
        boolean layer = below(3) == 0;
        String text = layer ? layerText() : (char) ('A' + below(6)) + "=" + expression(below(6));
        if (text.length() > 60 && below(10) > 0) {
            text = layer ? "0>1" : "A=B~";
        }
        boolean spoil = below(3) == 0;
        write(spoil ? spoilt(text) : text);
        if (below(20) == 0) {
            call(10, '~', 0, 0, 0);
        }
        if (layer) {
            call(0, below(6), 0, 0, 0);
        }
        call(6, 0, 0, 0, 0);
        call(22, below(16), 0, 0, 0);
        call(22, below(16), 0, 0, 0);
    }

    private void write(String text) {
        call(11, 0, 0, 0, 0);
        for (int i = 0; i < text.length(); i++) {
            call(10, text.charAt(i), 0, 0, 0);
        }
    }

    // ---- calls

    /** How often each act is called, among a hundred: piles shall grow more often than they shrink. */
    private static final int[] OFTEN = {20, 3, 14, 14, 20, 2, 2, 4, 5, 7, 0, 0, 4, 2, 3};

    private static int anyAct() {
        int left = below(100);
        int method = 0;
        while (left >= OFTEN[method]) {
            left -= OFTEN[method];
            method++;
        }
        return method;
    }

    private void act() {
        int method = anyAct();
        switch (method) {
            case 0: case 1: case 5: call(method, about(5), 0, 0, 0); break;
            case 2: call(method, about(5), about(2), below(2), 0); break;
            case 3: call(method, about(5), about(3), about(3), 0); break;
            case 4: call(method, about(5), about(2), about(15), about(17)); break;
            case 7: call(method, about(2), 0, 0, 0); break;
            case 8: hide(); break;
            case 9: call(method, about(15), 0, 0, 0); break;
            default: call(method, 0, 0, 0, 0);
        }
    }

    private void hide() {
        int map = about(5);
        int suspects = below(3) == 0 ? about(63) : 63;
        call(8, map, suspects, 0, 0);
    }

    private void tell() {
        int method = 15 + below(13);
        switch (method) {
            case 15: case 16: call(method, about(5), about(15), 0, 0); break;
            case 17: call(method, about(5), about(8), 0, 0); break;
            case 18: call(method, about(5), about(2), about(3), 0); break;
            case 19: call(method, about(5), about(2), about(15), 0); break;
            case 20: call(method, about(5), about(15), about(2), 0); break;
            case 21: call(method, about(5), about(15), steps(), 0); break;
            case 22: call(method, about(15), 0, 0, 0); break;
            case 23: call(method, about(5), about(5), 0, 0); break;
            case 24: call(method, below(2) == 0 ? 63 : about(63), 0, 0, 0); break;
            case 25: call(method, about(5), 0, 0, 0); break;
            case 26: call(method, about(15), about(1), 0, 0); break;
            default: call(method, about(6), 0, 0, 0);
        }
    }

    private static int steps() {
        int kind = below(40);
        return kind == 0 ? 1000000 - below(50) : kind == 1 ? 1000001 : about(40);
    }

    private void call(int method, int a, int b, int c, int d) {
        int left = x.callsLeft();
        if (left == 0) {
            return;
        }
        String what = "run " + run + ", " + left + " calls before its end, method " + method
            + " (" + a + ", " + b + ", " + c + ", " + d + ")";
        int want = ofModel(method, a, b, c, d);
        Check.due(what, ofProgram(method, a, b, c, d), want);
        if (want >= 0) {
            reached[method]++;
        }
    }

    private int ofProgram(int method, int a, int b, int c, int d) {
        switch (method) {
            case 0: return x.push(a);
            case 1: return x.pop(a);
            case 2: return x.turn(a, b, c == 1);
            case 3: return x.lift(a, b, c);
            case 4: return x.setEntry(a, b, c, d);
            case 5: return x.flatten(a);
            case 6: return x.assign();
            case 7: return x.setRule(a);
            case 8: return x.hide(a, b);
            case 9: return x.ask(a);
            case 10: return x.type((char) a);
            case 11: return x.clearText();
            case 12: return x.undo();
            case 13: return x.keep();
            case 14: return x.restore();
            case 15: return x.get(a, b);
            case 16: return x.tells(a, b);
            case 17: return x.map(a, b);
            case 18: return x.layer(a, b, c);
            case 19: return x.entry(a, b, c);
            case 20: return x.follow(a, b, c);
            case 21: return x.after(a, b, c);
            case 22: return x.gives(a);
            case 23: return x.differ(a, b);
            case 24: return x.probes(a);
            case 25: return x.hidden(a);
            case 26: return x.split(a, b);
            default: return x.count(a);
        }
    }

    private int ofModel(int method, int a, int b, int c, int d) {
        switch (method) {
            case 0: return y.push(a);
            case 1: return y.pop(a);
            case 2: return y.turn(a, b, c == 1);
            case 3: return y.lift(a, b, c);
            case 4: return y.setEntry(a, b, c, d);
            case 5: return y.flatten(a);
            case 6: return y.assign();
            case 7: return y.setRule(a);
            case 8: return y.hide(a, b);
            case 9: return y.ask(a);
            case 10: return y.type((char) a);
            case 11: return y.clearText();
            case 12: return y.undo();
            case 13: return y.keep();
            case 14: return y.restore();
            case 15: return y.get(a, b);
            case 16: return y.tells(a, b);
            case 17: return y.map(a, b);
            case 18: return y.layer(a, b, c);
            case 19: return y.entry(a, b, c);
            case 20: return y.follow(a, b, c);
            case 21: return y.after(a, b, c);
            case 22: return y.gives(a);
            case 23: return y.differ(a, b);
            case 24: return y.probes(a);
            case 25: return y.hidden(a);
            case 26: return y.split(a, b);
            default: return y.count(a);
        }
    }
}
