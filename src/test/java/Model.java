import java.util.ArrayList;
import java.util.List;

/**
 * The document once more, told as plainly and slowly as can be and in another way than the class
 * (kinds as classes, texts as trees, common rows and hiding by trying all), to hold the class against.
 */
final class Model {
    static final int BAD = -1000000001, NO = -1000000002, FULL = -1000000003, NONE = -1000000005;
    static final int NOTHING = -1000000011, KIND = -1000000012, INDEX = -1000000013, SIZE = -1000000014;

    static class Shelf {
        List<Integer> layers = new ArrayList<>();
        int pressed, damp;

        boolean catches(int d, int day) { return true; }
        int lift(World w) {
            Law l = w.law("lift");
            if (l == null) return 2;
            return Math.max(0, Math.min(12, l.e.value(c -> c == 'n' ? layers.size() : c == 'd' ? damp : w.day)));
        }
        int worth() { return layers.size(); }
        int number() { return 0; }
        Shelf twin(int kind) {
            Shelf s = of(kind);
            s.layers = new ArrayList<>(layers);
            s.pressed = pressed;
            s.damp = damp;
            return s;
        }
        void settle(int d) {
            layers.add(d);
            if (layers.size() > 12) {
                layers.remove(0);
                pressed++;
            }
        }
    }

    static class Lintel extends Shelf {
        @Override boolean catches(int d, int day) { return d >= 3; }
        @Override int lift(World w) { return Math.max(0, super.lift(w) - 1); }
        @Override int worth() { return super.worth() + 4; }
        @Override int number() { return 1; }
    }

    static class Archive extends Lintel {
        @Override boolean catches(int d, int day) { return super.catches(d, day) || d == 0; }
        @Override int lift(World w) { return 0; }
        @Override int worth() { return 2 * super.worth(); }
        @Override int number() { return 3; }
    }

    static class Table extends Shelf {
        @Override boolean catches(int d, int day) { return (d + day) % 3 != 0; }
        @Override int lift(World w) { return 2 * super.lift(w); }
        @Override int worth() { return 24 - super.worth(); }
        @Override int number() { return 2; }
    }

    static class Cloth extends Table {
        @Override boolean catches(int d, int day) { return damp >= 3 && super.catches(d, day); }
        @Override int lift(World w) { return super.lift(w) + 1; }
        @Override int worth() { return super.worth() - 3; }
        @Override int number() { return 4; }
    }

    static class Top extends Shelf {
        @Override int lift(World w) { return 0; }
        @Override int worth() { return 7; }
        @Override int number() { return 5; }
    }

    static Shelf of(int kind) {
        Shelf[] all = {new Shelf(), new Lintel(), new Table(), new Archive(), new Cloth(), new Top()};
        return all[kind];
    }

    static final Class<?>[] CLASSES = {Shelf.class, Lintel.class, Table.class, Archive.class, Cloth.class, Top.class};

    interface Names { int of(char c); }
    interface Node { int value(Names names); }
    record Law(String key, Node e, int atoms) { }

    static final class Fault extends RuntimeException {
        private static final long serialVersionUID = 1;
        final int place;
        Fault(int place) { this.place = place; }
    }

    record Token(String text, int place, boolean glued) { }

    static final class Parser {
        final List<Token> tokens = new ArrayList<>();
        int at, atoms, brackets, nots;
        String names;

        Parser(String s) {
            boolean word = false;
            for (int k = 0; k < s.length();) {
                char c = s.charAt(k);
                if (c == ' ') { k++; word = false; continue; }
                String set = letter(c) ? "abcdefghijklmnopqrstuvwxyz" : digit(c) ? "0123456789" : "";
                int e = k + 1;
                while (e < s.length() && set.indexOf(s.charAt(e)) >= 0) e++;
                tokens.add(new Token(s.substring(k, e), k, word && !set.isEmpty()));
                word = !set.isEmpty();
                k = e;
            }
            tokens.add(new Token("", s.length(), false));
        }
        static boolean letter(char c) { return c >= 'a' && c <= 'z'; }
        static boolean digit(char c) { return c >= '0' && c <= '9'; }
        String here() { return tokens.get(at).glued() ? "?" : tokens.get(at).text(); }
        Fault fault() { return new Fault(tokens.get(at).place()); }
        boolean isIn(String signs) { return here().length() == 1 && signs.contains(here()); }

        Law law() {
            String key = here();
            if (!List.of("lift", "fee", "fine").contains(key)) throw fault();
            names = key.equals("lift") ? "ndt" : key.equals("fee") ? "sb" : "np";
            at++;
            Node e = or();
            if (!here().isEmpty()) throw fault();
            return new Law(key, e, atoms);
        }
        Node or() {
            Node a = and();
            while (isIn("|")) { at++; Node l = a, r = and(); a = v -> (l.value(v) != 0 | r.value(v) != 0) ? 1 : 0; }
            return a;
        }
        Node and() {
            Node a = test();
            while (isIn("&")) { at++; Node l = a, r = test(); a = v -> (l.value(v) != 0 & r.value(v) != 0) ? 1 : 0; }
            return a;
        }
        Node test() {
            Node l = sum();
            if (!isIn("<=>")) return l;
            String sign = here();
            at++;
            Node r = sum();
            return v -> {
                int c = Integer.compare(l.value(v), r.value(v));
                return (sign.equals("<") ? c < 0 : sign.equals("=") ? c == 0 : c > 0) ? 1 : 0;
            };
        }
        Node sum() {
            Node a = term();
            while (isIn("+-")) {
                boolean plus = here().equals("+");
                at++;
                Node l = a, r = term();
                a = v -> plus ? l.value(v) + r.value(v) : l.value(v) - r.value(v);
            }
            return a;
        }
        Node term() {
            Node a = piece();
            while (isIn("*/")) {
                boolean times = here().equals("*");
                at++;
                Node l = a, r = piece();
                a = v -> {
                    int x = l.value(v), y = r.value(v);
                    return times ? x * y : y == 0 ? 0 : x / y;
                };
            }
            return a;
        }
        Node piece() {
            String h = here();
            if (h.equals("!")) {
                if (nots == 8) throw fault();
                at++;
                nots++;
                Node p = piece();
                nots--;
                return v -> p.value(v) == 0 ? 1 : 0;
            }
            if (h.equals("(")) {
                if (brackets == 8) throw fault();
                at++;
                brackets++;
                Node e = or();
                brackets--;
                if (!here().equals(")")) throw fault();
                at++;
                return e;
            }
            if (h.matches("[0-9]{1,4}")) {
                int n = Integer.parseInt(h);
                at++;
                atoms++;
                return v -> n;
            }
            if (h.length() == 1 && names.contains(h)) {
                at++;
                atoms++;
                return v -> v.of(h.charAt(0));
            }
            throw fault();
        }
    }

    /** What an image keeps. */
    static final class World {
        List<Shelf> all = new ArrayList<>();
        int broom = 20, draught = 10, swept, blown, day, z = 1;
        List<Law> laws = new ArrayList<>();

        World twin() {
            World w = new World();
            for (Shelf s : all) w.all.add(s.twin(s.number()));
            w.broom = broom; w.draught = draught; w.swept = swept; w.blown = blown; w.day = day; w.z = z;
            w.laws = new ArrayList<>(laws);
            return w;
        }
        Law law(String key) {
            Law found = null;
            for (Law l : laws) if (l.key().equals(key)) found = l;
            return found;
        }
        int draw() { z = z * 1103515245 + 12345; return z >>> 8; }
        int sweep(Shelf s) {
            int n = Math.min(s.lift(this), s.layers.size());
            for (int k = 0; k < n; k++) s.layers.remove(s.layers.size() - 1);
            swept += n;
            return n;
        }
        World pass(int n) {
            for (int k = 0; k < n; k++) pass();
            return this;
        }
        void pass() {
            int deed = draw() % 10;
            for (Shelf s : all) if (s.catches(deed, day)) s.settle(deed);
            if (draw() % 100 < broom && !all.isEmpty()) sweep(all.get(draw() % all.size()));
            if (draw() % 100 < draught && all.size() >= 2) {
                int one = draw() % all.size();
                List<Integer> from = all.get(one).layers;
                if (!from.isEmpty()) {
                    all.get((one + 1) % all.size()).settle(from.remove(from.size() - 1));
                    blown++;
                }
            }
            day++;
        }
        int layers() { return all.stream().mapToInt(s -> s.layers.size()).sum(); }
        int pressed() { return all.stream().mapToInt(s -> s.pressed).sum(); }
    }

    World w = new World(), image;
    /** Null in a place: NO NUMBER; null: MISSING. */
    final List<List<Integer>> sheets = new ArrayList<>(java.util.Collections.nCopies(4, null));
    final int[] sorts = new int[4];
    final Object[] slots = new Object[5];
    final List<Integer> waiting = new ArrayList<>();
    String tape = "";

    static boolean in(int v, int least, int most) { return v >= least && v <= most; }
    boolean is(int surface) { return in(surface, 0, w.all.size() - 1); }
    Shelf at(int surface) { return w.all.get(surface); }

    int surface(int kind, int damp) {
        if (!in(kind, 0, 5) || !in(damp, 0, 9)) return BAD;
        if (w.all.size() == 8) return FULL;
        Shelf s = of(kind);
        s.damp = damp;
        w.all.add(s);
        return w.all.size() - 1;
    }
    int told(int surface, int what) {
        if (!is(surface) || !in(what, 0, 6)) return BAD;
        Shelf s = at(surface);
        int set = 0;
        for (int d = 0; d < 10; d++) if (s.catches(d, w.day)) set += 1 << d;
        return new int[] {s.number(), s.damp, s.layers.size(), s.pressed, set, s.lift(w), s.worth()}[what];
    }
    int layer(int surface, int k) {
        if (!is(surface) || !in(k, 0, 11)) return BAD;
        return k < at(surface).layers.size() ? at(surface).layers.get(k) : NONE;
    }
    int as(int surface, int kind) {
        if (!is(surface) || !in(kind, 0, 5)) return BAD;
        return CLASSES[kind].isInstance(at(surface)) ? at(surface).damp : KIND;
    }
    int turns(int surface, int kind) {
        if (!is(surface) || !in(kind, 0, 5)) return BAD;
        Shelf was = w.all.set(surface, at(surface).twin(kind));
        return was.number();
    }
    int damp(int surface, int v) {
        if (!is(surface) || !in(v, 0, 9)) return BAD;
        int was = at(surface).damp;
        at(surface).damp = v;
        return was;
    }
    int rule(int what, int v) {
        if (!in(what, 0, 1) || !in(v, 0, 100)) return BAD;
        int was = what == 0 ? w.broom : w.draught;
        if (what == 0) w.broom = v; else w.draught = v;
        return was;
    }
    int settles(int surface, int deed) {
        if (!is(surface) || !in(deed, 0, 9)) return BAD;
        at(surface).settle(deed);
        return at(surface).layers.size();
    }
    int sweeps(int surface) { return is(surface) ? w.sweep(at(surface)) : BAD; }
    int lifts(int surface, int k) {
        if (!is(surface) || !in(k, 0, 11)) return BAD;
        return k < at(surface).layers.size() ? at(surface).layers.remove(k) : NONE;
    }
    int deal(int n) {
        if (!in(n, 1, 8)) return BAD;
        int came = 0;
        while (came < n && w.all.size() < 8) {
            Shelf s = of(w.draw() % 6);
            s.damp = w.draw() % 10;
            w.all.add(s);
            came++;
        }
        return came;
    }
    int seed(int v) { int was = w.z; w.z = v; return was; }
    int days(int n) {
        if (!in(n, 1, 100)) return BAD;
        int was = w.swept;
        for (int k = 0; k < n && w.day < 9999; k++) w.pass();
        return w.swept - was;
    }
    int hall(int what) {
        int bare = 0;
        for (int k = 0; k < w.all.size(); k++) if (at(k).layers.isEmpty()) bare += 1 << k;
        return in(what, 0, 4) ? new int[] {w.swept, w.blown, w.pressed(), w.layers(), bare}[what] : BAD;
    }

    int rowFault(int sheet) {
        if (!in(sheet, 0, 3)) return BAD;
        if (sheets.get(sheet) == null) return NOTHING;
        for (Integer p : sheets.get(sheet)) if (p == null || !in(p, 0, 9)) return SIZE;
        return 0;
    }
    static boolean lies(List<Integer> row, List<Integer> layers) {
        if (row.isEmpty()) return true;
        int first = layers.indexOf(row.get(0));
        return first >= 0 && lies(row.subList(1, row.size()), layers.subList(first + 1, layers.size()));
    }
    int lies(int sheet) {
        int fault = rowFault(sheet);
        if (fault != 0) return fault;
        int set = 0;
        for (int k = 0; k < w.all.size(); k++) if (lies(sheets.get(sheet), at(k).layers)) set += 1 << k;
        return set;
    }
    int proof(int sheet, int surface) {
        int fault = is(surface) ? rowFault(sheet) : BAD;
        if (fault != 0) return fault;
        List<Integer> row = sheets.get(sheet);
        for (int k = 0; k < row.size(); k++) if (!lies(row.subList(0, k + 1), at(surface).layers)) return k;
        return NONE;
    }
    /** All rows of one's layers are tried; a deed is one digit, so texts compare as rows do. */
    static String common(Shelf one, Shelf other) {
        String best = "";
        for (int set = 0; set < 1 << one.layers.size(); set++) {
            List<Integer> row = chosen(one.layers, set);
            if (row.size() < best.length() || !lies(row, other.layers)) continue;
            StringBuilder text = new StringBuilder();
            for (int d : row) text.append(d);
            if (row.size() > best.length() || text.toString().compareTo(best) < 0) best = text.toString();
        }
        return best;
    }
    static List<Integer> chosen(List<Integer> layers, int set) {
        List<Integer> row = new ArrayList<>();
        for (int k = 0; k < layers.size(); k++) if ((set >> k & 1) != 0) row.add(layers.get(k));
        return row;
    }
    int common(int one, int other, int what) {
        if (!is(one) || !is(other) || one == other || !in(what, -1, 11)) return BAD;
        String row = common(at(one), at(other));
        return what == -1 ? row.length() : what < row.length() ? row.charAt(what) - '0' : NONE;
    }
    int hiding(int sheet, int surface) {
        int fault = is(surface) ? rowFault(sheet) : BAD;
        if (fault != 0) return fault;
        if (sheets.get(sheet).isEmpty()) return NONE;
        List<Integer> layers = at(surface).layers;
        int least = 99;
        for (int set = 0; set < 1 << layers.size(); set++) {
            List<Integer> left = chosen(layers, set);
            if (!lies(sheets.get(sheet), left)) least = Math.min(least, layers.size() - left.size());
        }
        return least;
    }
    int alike(int what) {
        if (!in(what, 0, 1)) return BAD;
        if (w.all.size() < 2) return NONE;
        int best = -1, two = 0;
        for (int i = 0; i < w.all.size(); i++) for (int j = 0; j < w.all.size(); j++) {
            if (i == j) continue;
            int c = common(at(i), at(j)).length();
            if (c > best) { best = c; two = 10 * i + j; }
        }
        return what == 0 ? two : best;
    }
    int forged(int what) {
        if (!in(what, 0, 1)) return BAD;
        if (w.all.size() < 2) return NONE;
        int least = 9999, which = 0;
        for (int i = 0; i < w.all.size(); i++) {
            int c = 0;
            for (int j = 0; j < w.all.size(); j++) if (i != j) c += common(at(i), at(j)).length();
            if (c < least) { least = c; which = i; }
        }
        return what == 0 ? which : least;
    }

    int behind(int n, int what) {
        if (!in(n, 0, 100) || !in(what, 0, 2 + w.all.size())) return BAD;
        World t = w.twin().pass(n);
        return what == 0 ? t.swept : what == 1 ? t.blown : what == 2 ? t.pressed() : t.all.get(what - 3).layers.size();
    }
    static int goneDay(World t, List<Integer> row, int surface) {
        int day = 0;
        while (day <= 200 && lies(row, t.all.get(surface).layers)) { t.pass(); day++; }
        return day;
    }
    int gone(int sheet, int surface) {
        int fault = is(surface) ? rowFault(sheet) : BAD;
        if (fault != 0) return fault;
        int day = goneDay(w.twin(), sheets.get(sheet), surface);
        return day > 200 ? NONE : day;
    }
    int safe(int sheet, int what) {
        int fault = in(what, 0, 1) ? rowFault(sheet) : BAD;
        if (fault != 0) return fault;
        if (sheets.get(sheet).size() > 12) return SIZE;
        if (w.all.isEmpty()) return NONE;
        int best = -1, which = 0;
        for (int k = 0; k < w.all.size(); k++) {
            World t = w.twin();
            for (int d : sheets.get(sheet)) t.all.get(k).settle(d);
            int day = goneDay(t, sheets.get(sheet), k);
            if (day > best) { best = day; which = k; }
        }
        return what == 0 ? which : best;
    }
    int becomes(int surface, int n, int what) {
        if (!is(surface) || !in(n, 1, 60) || !in(what, 0, 1)) return BAD;
        int best = -1, which = 0;
        for (int kind = 0; kind < 6; kind++) {
            World t = w.twin();
            t.all.set(surface, t.all.get(surface).twin(kind));
            int many = t.pass(n).all.get(surface).layers.size();
            if (many > best) { best = many; which = kind; }
        }
        return what == 0 ? which : best;
    }
    int kept(int n, int what) {
        if (!in(n, 1, 60) || !in(what, 0, 1)) return BAD;
        int best = -1, which = 0;
        for (int k = 0; k < 11; k++) {
            World t = w.twin();
            t.broom = 10 * k;
            int many = t.pass(n).layers();
            if (many > best) { best = many; which = 10 * k; }
        }
        return what == 0 ? which : best;
    }
    int whose(int sheet, int what) {
        if (!in(sheet, 0, 3) || !in(what, 0, 1)) return BAD;
        List<Integer> row = sheets.get(sheet);
        if (row == null) return NOTHING;
        if (w.all.isEmpty()) return NONE;
        int best = Integer.MAX_VALUE, which = 0;
        for (int s = 0; s < w.all.size(); s++) {
            int sum = 0;
            for (int k = 0; k < row.size(); k++) {
                if (row.get(k) != null) sum += Math.abs(w.twin().pass(k).all.get(s).layers.size() - row.get(k));
            }
            if (sum < best) { best = sum; which = s; }
        }
        return what == 0 ? which : best;
    }
    int fee() {
        Law l = w.law("fee");
        return l == null ? w.swept : l.e().value(c -> c == 's' ? w.swept : w.blown);
    }
    int fine(int surface) {
        if (!is(surface)) return BAD;
        Law l = w.law("fine");
        Shelf s = at(surface);
        return l == null ? s.layers.size() : l.e().value(c -> c == 'n' ? s.layers.size() : s.pressed);
    }

    int feed(int a, int b, int c) {
        if (tape.length() > 84) return FULL;
        for (byte x : java.nio.ByteBuffer.allocate(12).putInt(a).putInt(b).putInt(c).array()) tape += (char) (x & 255);
        return tape.length();
    }
    int trim(int n) {
        if (!in(n, 0, tape.length())) return BAD;
        tape = tape.substring(0, n);
        return n;
    }
    int text() {
        String s = tape;
        tape = "";
        Law l;
        try {
            l = new Parser(s).law();
        } catch (Fault f) {
            return -100 - f.place;
        }
        if (w.laws.size() == 14) return FULL;
        w.laws.add(l);
        return w.laws.size() - 1;
    }
    static final List<String> KEYS = List.of("lift", "fee", "fine");
    int textTold(int text, int what) {
        if (!in(text, 0, w.laws.size() - 1) || !in(what, 0, 1)) return BAD;
        return what == 0 ? KEYS.indexOf(w.laws.get(text).key()) : w.laws.get(text).atoms();
    }
    int why(int key) {
        if (!in(key, 0, 2)) return BAD;
        for (int k = w.laws.size() - 1; k >= 0; k--) if (w.laws.get(k).key().equals(KEYS.get(key))) return k;
        return NONE;
    }

    int sheet(int sheet, int sort, int n) {
        if (!in(sheet, 0, 3) || !in(sort, -1, 1) || sort >= 0 && n > 24) return BAD;
        if (sort == -1) { sheets.set(sheet, null); return 0; }
        if (n < 0) return SIZE;
        sheets.set(sheet, new ArrayList<>(java.util.Collections.nCopies(n, 0)));
        sorts[sheet] = sort;
        return n;
    }
    int mark(int sheet, int place, int v) {
        if (!in(sheet, 0, 3)) return BAD;
        List<Integer> row = sheets.get(sheet);
        if (row == null) return NOTHING;
        if (!in(place, 0, row.size() - 1)) return INDEX;
        if (sorts[sheet] == 0 && v == NONE) return KIND;
        if (sorts[sheet] == 1 && v != NONE && !in(v, -99999, 99999)) return BAD;
        row.set(place, sorts[sheet] == 0 ? Integer.valueOf((short) v) : v == NONE ? null : Integer.valueOf(v));
        return 1;
    }
    int pour(int sheet) {
        if (!in(sheet, 0, 3)) return BAD;
        List<Integer> row = sheets.get(sheet);
        if (row == null) return NOTHING;
        int otherwise = 0;
        for (int k = 0; k < row.size() && is(k); k++) {
            if (row.get(k) == null) continue;
            int v = Math.max(0, Math.min(9, row.get(k)));
            if (v != at(k).damp) otherwise++;
            at(k).damp = v;
        }
        return otherwise;
    }
    int reads(int sheet) {
        if (!in(sheet, 0, 3)) return BAD;
        List<Integer> row = sheets.get(sheet);
        if (row == null) return NOTHING;
        for (int k = 0; k < row.size(); k++) {
            if (row.get(k) != null && (!is(k) || row.get(k) != at(k).layers.size())) return k;
        }
        return NONE;
    }
    int copy(int from, int place, int to, int at, int many) {
        if (!in(from, 0, 3) || !in(to, 0, 3)) return BAD;
        List<Integer> a = sheets.get(from), b = sheets.get(to);
        if (a == null || b == null) return NOTHING;
        if (sorts[from] != sorts[to]) return KIND;
        if (place < 0 || at < 0 || many < 0 || (long) place + many > a.size() || (long) at + many > b.size()) return INDEX;
        List<Integer> part = new ArrayList<>(a.subList(place, place + many));
        for (int k = 0; k < many; k++) b.set(at + k, part.get(k));
        return many;
    }
    static int thing(Object o) { return o == null ? 0 : o instanceof Shelf ? 1 : o instanceof List ? 2 : 3; }
    int lay(int slot, int thing, int k) {
        if (!in(slot, 0, 4) || !in(thing, 0, 3) || thing == 1 && !is(k) || thing == 2 && !in(k, 0, 3)) return BAD;
        if (thing == 2 && sheets.get(k) == null) return NOTHING;
        int held = thing(slots[slot]);
        slots[slot] = thing == 0 ? null : thing == 1 ? at(k).twin(at(k).number())
                : thing == 2 ? new ArrayList<>(sheets.get(k)) : Integer.valueOf(k);
        return held;
    }
    int ask(int slot, int kind) {
        if (!in(slot, 0, 4) || !in(kind, 0, 5)) return BAD;
        if (slots[slot] == null) return NOTHING;
        return CLASSES[kind].isInstance(slots[slot]) ? ((Shelf) slots[slot]).worth() : KIND;
    }
    int item(int slot, int place) {
        if (!in(slot, 0, 4)) return BAD;
        if (slots[slot] == null) return NOTHING;
        if (!(slots[slot] instanceof List<?> row)) return KIND;
        if (!in(place, 0, row.size() - 1)) return INDEX;
        return row.get(place) == null ? KIND : (Integer) row.get(place);
    }
    int rest(int slot, int n) {
        if (!in(slot, 0, 4)) return BAD;
        if (slots[slot] == null) return NOTHING;
        if (!(slots[slot] instanceof Integer v)) return KIND;
        return n == 0 ? NO : (int) ((long) v % n);
    }

    int tell(int v) {
        if (waiting.size() == 60) return FULL;
        waiting.add(v);
        return waiting.size();
    }
    int check(int n) {
        List<Integer> told = new ArrayList<>(waiting), want = new ArrayList<>();
        waiting.clear();
        if (!in(n, 1, 30)) return BAD;
        if (image == null) return NO;
        World t = image.twin();
        for (int k = 0; k < n && t.day < 9999; k++) {
            t.pass();
            want.add(t.swept);
            want.add(t.layers());
        }
        if (told.equals(want)) return 0;
        int right = 0;
        while (right < told.size() && right < want.size() && told.get(right).equals(want.get(right))) right++;
        return 1 + right;
    }
    int keep() { image = w.twin(); return w.all.size(); }
    int back() {
        if (image == null) return NO;
        w = image.twin();
        return w.all.size();
    }
    int count(int what) {
        if (!in(what, 0, 7)) return BAD;
        return new int[] {w.all.size(), w.day, w.broom, w.draught, w.laws.size(), waiting.size(), tape.length(), w.z}[what];
    }
}
