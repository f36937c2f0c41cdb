import java.util.Random;

/** Every promise: long runs of calls by lot, the class held against the model call by call. */
public final class ModelTest {
    private static final int RUNS = 400;
    private static final int CALLS = 512;
    private static final int[] EDGES = {Integer.MIN_VALUE, Integer.MAX_VALUE, -1000000005, -1, -2, 100000, -99999};
    private static final String[] PARTS = {"n", "d", "t", "s", "b", "p", "(", ")", "!", "+", "-", "*", "/", "<", "=", ">",
        "&", "|", " ", "7", "12", "9999", "0", "12345", "x", "lift", "fee", "%"};

    private final Random lot;
    private final DustLayers x = new DustLayers();
    private final Model y = new Model();
    private final StringBuilder calls = new StringBuilder();
    private int made;

    private ModelTest(long seed) {
        lot = new Random(seed);
    }

    public static void main(String[] args) {
        int runs = args.length > 0 ? Integer.parseInt(args[0]) : RUNS;
        for (int run = 0; run < runs; run++) {
            ModelTest test = new ModelTest(run);
            if (!test.run()) {
                System.out.println("run " + run + ":\n" + test.calls);
                System.exit(1);
            }
        }
        System.out.println("ModelTest: " + runs + " runs as the model's");
    }

    private boolean run() {
        for (int k = lot.nextInt(3) * 50; k > 0; k--) {
            if (!same("days", x.days(100), y.days(100), 100)) return false;
        }
        while (made < CALLS) {
            if (!step()) return false;
        }
        return true;
    }

    private boolean same(String call, int got, int want, int... with) {
        made++;
        calls.append(call).append(java.util.Arrays.toString(with)).append(" = ").append(got).append('\n');
        if (got != want) {
            calls.append("due is ").append(want).append('\n');
        }
        return got == want;
    }

    /** Mostly within 0 .. bound - 1, now and then right outside, seldom far out. */
    private int some(int bound) {
        int p = lot.nextInt(60);
        if (p == 0) return EDGES[lot.nextInt(EDGES.length)];
        if (p < 4) return lot.nextInt(bound + 3) - 1;
        return lot.nextInt(Math.max(1, bound));
    }

    private int surface() {
        return some(Math.max(1, y.w.all.size()));
    }

    private int value() {
        int p = lot.nextInt(12);
        if (p == 0) return -1000000005;
        if (p == 1) return lot.nextInt();
        if (p == 2) return lot.nextInt(30) - 10;
        return lot.nextInt(p < 7 ? 4 : 10);
    }

    private boolean step() {
        switch (lot.nextInt(30)) {
            case 0: return texts();
            case 1: return rowOfDeeds();
            case 2: return told();
            case 3: return imaged();
            case 4: case 5: case 6: case 7: return acts();
            case 8: case 9: case 10: case 11: case 12: return settles();
            case 13: case 14: case 15: case 16: return reads();
            case 17: case 18: return thinks();
            case 19: case 20: case 21: case 22: case 23: return sheets();
            default: return asks();
        }
    }

    private boolean settles() {
        int s = surface();
        int d = lot.nextInt(2) == 0 ? lot.nextInt(3) : some(10);
        return same("settles", x.settles(s, d), y.settles(s, d), s, d);
    }

    private boolean acts() {
        int a = surface();
        int k = some(6);
        int d = some(10);
        switch (lot.nextInt(12)) {
            case 0: return same("surface", x.surface(k, d), y.surface(k, d), k, d);
            case 1: return same("turns", x.turns(a, k), y.turns(a, k), a, k);
            case 2: return same("damp", x.damp(a, d), y.damp(a, d), a, d);
            case 3: {
                int what = some(2);
                int v = some(101);
                return same("rule", x.rule(what, v), y.rule(what, v), what, v);
            }
            case 4: return same("sweeps", x.sweeps(a), y.sweeps(a), a);
            case 5: return same("lifts", x.lifts(a, d), y.lifts(a, d), a, d);
            case 6: {
                int n = lot.nextInt(5) == 0 ? some(9) : 1;
                return same("deal", x.deal(n), y.deal(n), n);
            }
            case 7: {
                int v = lot.nextInt();
                return same("seed", x.seed(v), y.seed(v), v);
            }
            default: {
                int n = lot.nextInt(3) == 0 ? some(102) : 1 + lot.nextInt(4);
                return same("days", x.days(n), y.days(n), n);
            }
        }
    }

    private boolean asks() {
        int a = surface();
        int k = some(12);
        switch (lot.nextInt(8)) {
            case 0: case 1: {
                int what = some(7);
                return same("told", x.told(a, what), y.told(a, what), a, what);
            }
            case 2: return same("layer", x.layer(a, k), y.layer(a, k), a, k);
            case 3: {
                int kind = some(6);
                return same("as", x.as(a, kind), y.as(a, kind), a, kind);
            }
            case 4: {
                int what = some(5);
                return same("hall", x.hall(what), y.hall(what), what);
            }
            case 5: {
                int what = some(8);
                return same("count", x.count(what), y.count(what), what);
            }
            case 6: return same("fee", x.fee(), y.fee());
            default: return same("fine", x.fine(a), y.fine(a), a);
        }
    }

    /** A row that is likely to lie: picked from a surface's layers. */
    private boolean rowOfDeeds() {
        int sheet = lot.nextInt(4);
        int sort = lot.nextInt(2);
        int n = lot.nextInt(5);
        if (!same("sheet", x.sheet(sheet, sort, n), y.sheet(sheet, sort, n), sheet, sort, n)) return false;
        int s = lot.nextInt(8);
        int at = 0;
        for (int k = 0; k < n; k++) {
            int d = lot.nextInt(10);
            at += lot.nextInt(3);
            if (s < y.w.all.size() && at < y.at(s).layers.size()) {
                d = y.at(s).layers.get(at);
                at++;
            }
            if (!same("mark", x.mark(sheet, k, d), y.mark(sheet, k, d), sheet, k, d)) return false;
        }
        return true;
    }

    private boolean reads() {
        int sheet = some(4);
        int a = surface();
        int b = surface();
        int what = some(2);
        switch (lot.nextInt(7)) {
            case 0: return same("lies", x.lies(sheet), y.lies(sheet), sheet);
            case 1: return same("proof", x.proof(sheet, a), y.proof(sheet, a), sheet, a);
            case 2: return same("hiding", x.hiding(sheet, a), y.hiding(sheet, a), sheet, a);
            case 3:
                if (lot.nextInt(4) != 0) return true;
                return same("alike", x.alike(what), y.alike(what), what);
            case 4:
                if (lot.nextInt(4) != 0) return true;
                return same("forged", x.forged(what), y.forged(what), what);
            default: {
                int k = some(14) - 1;
                return same("common", x.common(a, b, k), y.common(a, b, k), a, b, k);
            }
        }
    }

    private boolean thinks() {
        int sheet = some(4);
        int a = surface();
        int what = some(2);
        int n = lot.nextBoolean() ? some(62) : 1 + lot.nextInt(9);
        switch (lot.nextInt(7)) {
            case 0: {
                int k = some(3 + y.w.all.size());
                return same("behind", x.behind(n, k), y.behind(n, k), n, k);
            }
            case 1: return same("gone", x.gone(sheet, a), y.gone(sheet, a), sheet, a);
            case 2: return same("safe", x.safe(sheet, what), y.safe(sheet, what), sheet, what);
            case 3: return same("becomes", x.becomes(a, n, what), y.becomes(a, n, what), a, n, what);
            case 4: return same("kept", x.kept(n, what), y.kept(n, what), n, what);
            case 5: {
                int far = some(102);
                return same("behind", x.behind(far, 2), y.behind(far, 2), far, 2);
            }
            default: return same("whose", x.whose(sheet, what), y.whose(sheet, what), sheet, what);
        }
    }

    private boolean sheets() {
        int sheet = some(4);
        int slot = some(5);
        switch (lot.nextInt(10)) {
            case 0: {
                int sort = some(3) - 1;
                int n = lot.nextBoolean() ? some(26) : lot.nextInt(9);
                return same("sheet", x.sheet(sheet, sort, n), y.sheet(sheet, sort, n), sheet, sort, n);
            }
            case 1: case 2: {
                int place = lot.nextBoolean() ? some(25) : lot.nextInt(5);
                int v = value();
                return same("mark", x.mark(sheet, place, v), y.mark(sheet, place, v), sheet, place, v);
            }
            case 3: return same("pour", x.pour(sheet), y.pour(sheet), sheet);
            case 4: return same("reads", x.reads(sheet), y.reads(sheet), sheet);
            case 5: {
                int place = some(7);
                int to = some(4);
                int at = some(7);
                int many = some(7);
                return same("copy", x.copy(sheet, place, to, at, many), y.copy(sheet, place, to, at, many), sheet, place, to, at, many);
            }
            case 6: {
                int thing = some(4);
                int k = thing == 1 ? surface() : thing == 2 ? some(4) : value();
                return same("lay", x.lay(slot, thing, k), y.lay(slot, thing, k), slot, thing, k);
            }
            case 7: {
                int kind = some(6);
                return same("ask", x.ask(slot, kind), y.ask(slot, kind), slot, kind);
            }
            case 8: {
                int place = lot.nextBoolean() ? some(25) : lot.nextInt(5);
                return same("item", x.item(slot, place), y.item(slot, place), slot, place);
            }
            default: {
                int n = value();
                return same("rest", x.rest(slot, n), y.rest(slot, n), slot, n);
            }
        }
    }

    private boolean texts() {
        int t = some(Math.max(1, y.w.laws.size()));
        int what = some(3);
        switch (lot.nextInt(6)) {
            case 0: return same("textTold", x.textTold(t, what), y.textTold(t, what), t, what);
            case 1: return same("why", x.why(what), y.why(what), what);
            case 2: {
                int n = some(97);
                return same("trim", x.trim(n), y.trim(n), n);
            }
            case 3: {
                int v = lot.nextInt();
                return same("feed", x.feed(v, ~v, v * 7), y.feed(v, ~v, v * 7), v, ~v, v * 7);
            }
            default: return text();
        }
    }

    private boolean text() {
        StringBuilder s = new StringBuilder();
        int key = lot.nextInt(3);
        s.append(new String[] {"lift ", "fee ", "fine "}[key]);
        expression(s, new String[] {"ndt", "sb", "np"}[key], 4);
        for (int k = lot.nextInt(4); k == 1 && s.length() > 0; k = lot.nextInt(2)) {
            spoil(s);
        }
        s.setLength(Math.min(s.length(), 96));
        for (int at = 0; at < s.length() && y.tape.length() <= 84; at += 12) {
            int a = Due.word(s.toString(), at);
            int b = Due.word(s.toString(), at + 4);
            int c = Due.word(s.toString(), at + 8);
            if (!same("feed", x.feed(a, b, c), y.feed(a, b, c), a, b, c)) return false;
        }
        int n = s.length();
        return same("trim", x.trim(n), y.trim(n), n) && same("text of '" + s + "'", x.text(), y.text());
    }

    private void expression(StringBuilder s, String names, int depth) {
        int pieces = 1 + lot.nextInt(3);
        for (int k = 0; k < pieces; k++) {
            if (k > 0) s.append("|&<=>+-*/".charAt(lot.nextInt(9)));
            if (lot.nextInt(5) == 0) s.append(' ');
            for (int nots = lot.nextInt(5) == 0 ? lot.nextInt(4) : 0; nots > 0; nots--) s.append('!');
            if (depth > 0 && lot.nextInt(3) == 0) {
                s.append('(');
                expression(s, names, depth - 1);
                s.append(')');
            } else if (lot.nextBoolean()) {
                s.append(names.charAt(lot.nextInt(names.length())));
            } else {
                s.append(lot.nextInt(lot.nextBoolean() ? 10 : 10000));
            }
        }
    }

    private void spoil(StringBuilder s) {
        int at = lot.nextInt(s.length());
        switch (lot.nextInt(3)) {
            case 0: s.deleteCharAt(at); break;
            case 1: s.insert(at, PARTS[lot.nextInt(PARTS.length)]); break;
            default: s.setCharAt(at, (char) lot.nextInt(256));
        }
    }

    private boolean told() {
        int n = lot.nextInt(4) == 0 ? some(32) : 1 + lot.nextInt(5);
        int v = value();
        if (lot.nextInt(3) != 0 || y.image == null) {
            return lot.nextInt(3) == 0 ? same("check", x.check(n), y.check(n), n) : same("tell", x.tell(v), y.tell(v), v);
        }
        Model.World t = y.image.twin();
        int wrong = lot.nextBoolean() ? lot.nextInt(2 * Math.max(1, Math.min(n, 30))) : -1;
        for (int k = 0; k < Math.min(n, 30); k++) {
            t.pass();
            int swept = t.swept + (wrong == 2 * k ? 1 : 0);
            int layers = t.layers() - (wrong == 2 * k + 1 ? 1 : 0);
            if (!same("tell", x.tell(swept), y.tell(swept), swept)) return false;
            if (!same("tell", x.tell(layers), y.tell(layers), layers)) return false;
        }
        return same("check", x.check(n), y.check(n), n);
    }

    private boolean imaged() {
        return lot.nextInt(3) == 0 ? same("back", x.back(), y.back()) : same("keep", x.keep(), y.keep());
    }
}
