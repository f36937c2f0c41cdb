import java.util.ArrayList;
import java.util.EnumMap;
import java.util.EnumSet;
import java.util.List;
import java.util.Map;

/**
 * A refused call changes nothing: an object on which it was made is held, side by side, against a
 * twin on which it was not. Looking at a side may use it up, so each side has objects of its own.
 */
final class Refused {
    static final int BAD = -1000000001, NONE = -1000000005;

    interface Setup { DustLayers made(); }
    interface Call { int on(DustLayers x); }
    interface Ranged { int on(DustLayers x, int v); }
    enum Side { HALL, LAWS, TAPE, SHEETS, SLOTS, WAITING, IMAGE, THOUGHT }

    private final Due due;
    private final String state;
    private final Setup setup;
    private final Map<Side, List<Integer>> untouched = new EnumMap<>(Side.class);

    Refused(Due due, String state, Setup setup) {
        this.due = due;
        this.state = state;
        this.setup = setup;
        for (Side side : Side.values()) {
            untouched.put(side, seen(side, setup.made()));
        }
    }

    /** The call answers so, and nothing has changed. */
    void by(String call, int want, Call it) {
        by(call, want, EnumSet.allOf(Side.class), it);
    }

    /** The call answers so, and nothing has changed but one side, which the document lets it use up. */
    void butFor(Side used, String call, int want, Call it) {
        by(call, want, EnumSet.complementOf(EnumSet.of(used)), it);
    }

    private void by(String call, int want, EnumSet<Side> kept, Call it) {
        for (Side side : kept) {
            DustLayers x = setup.made();
            due.is(state + ": " + call, it.on(x), want);
            due.same(state + ": " + call + " leaves " + side, seen(side, x), untouched.get(side));
        }
    }

    /** One argument: within least .. most it is not BAD; right outside and far out it is, and nothing changes. */
    void range(String call, int least, int most, Ranged it) {
        for (int v : new int[] {Integer.MIN_VALUE, least - 1, most + 1, Integer.MAX_VALUE}) {
            by(call + " with " + v, BAD, x -> it.on(x, v));
        }
        for (int v = least; v <= most; v += Math.max(1, (most - least) / 200)) {
            due.isNot(state + ": " + call + " with " + v, it.on(setup.made(), v), BAD);
        }
        due.isNot(state + ": " + call + " with " + most, it.on(setup.made(), most), BAD);
    }

    static List<Integer> seen(Side side, DustLayers x) {
        List<Integer> a = new ArrayList<>();
        switch (side) {
            case HALL: lookAtHall(x, a); break;
            case LAWS: lookAtLaws(x, a); break;
            case TAPE: lookAtTape(x, a); break;
            case SHEETS: lookAtSheets(x, a); break;
            case SLOTS: lookAtSlots(x, a); break;
            case WAITING:
                a.add(x.count(5));
                a.add(x.check(30));
                break;
            case IMAGE:
                a.add(x.back());
                lookAtHall(x, a);
                lookAtLaws(x, a);
                break;
            default:
                for (int what = 0; what < 11; what++) {
                    a.add(x.behind(17, what));
                }
        }
        return a;
    }

    private static void lookAtHall(DustLayers x, List<Integer> a) {
        for (int what = 0; what < 8; what++) {
            a.add(what == 5 || what == 6 ? 0 : x.count(what));
        }
        for (int what = 0; what < 5; what++) {
            a.add(x.hall(what));
        }
        for (int k = 0; k < x.count(0); k++) {
            for (int what = 0; what < 7; what++) {
                a.add(x.told(k, what));
            }
            for (int layer = 0; layer < 12; layer++) {
                a.add(x.layer(k, layer));
            }
        }
    }

    private static void lookAtLaws(DustLayers x, List<Integer> a) {
        for (int key = 0; key < 3; key++) {
            a.add(x.why(key));
        }
        for (int text = 0; text < 14; text++) {
            a.add(x.textTold(text, 0));
            a.add(x.textTold(text, 1));
        }
        a.add(x.fee());
        for (int k = 0; k < 8; k++) {
            a.add(x.fine(k));
        }
    }

    /** Where there is an image it has room for one more text, which the tape then becomes. */
    private static void lookAtTape(DustLayers x, List<Integer> a) {
        a.add(x.count(6));
        x.back();
        a.add(x.text());
        a.add(x.textTold(x.count(4) - 1, 0));
        a.add(x.textTold(x.count(4) - 1, 1));
        a.add(x.fee());
        a.add(x.fine(0));
    }

    private static void lookAtSheets(DustLayers x, List<Integer> a) {
        for (int sheet = 0; sheet < 4; sheet++) {
            a.add(x.lay(0, 0, 0));
            a.add(x.lay(0, 2, sheet));
            for (int place = 0; place < 25; place++) {
                a.add(x.item(0, place));
            }
            a.add(x.mark(sheet, 0, NONE));
        }
    }

    private static void lookAtSlots(DustLayers x, List<Integer> a) {
        for (int slot = 0; slot < 5; slot++) {
            for (int kind = 0; kind < 6; kind++) {
                a.add(x.ask(slot, kind));
            }
            for (int place = 0; place < 25; place++) {
                a.add(x.item(slot, place));
            }
            a.add(x.rest(slot, Integer.MIN_VALUE));
            a.add(x.lay(slot, 0, 0));
        }
    }

    // ---- states to refuse calls in

    /** Five surfaces, two texts, rows of both sorts, a slot of each sort, numbers that wait, an image. */
    static DustLayers lived() {
        DustLayers x = imageOfLived();
        int[] told = daysTold(imageOfLived(), 5);
        Due.row(x, 0, 0, 1, 3);
        Due.row(x, 1, 1, 9, NONE, -2);
        x.sheet(2, 0, 0);
        x.lay(0, 1, 3);
        x.lay(1, 2, 1);
        x.lay(2, 3, -17);
        x.lay(4, 2, 2);
        for (int v : told) {
            x.tell(v);
        }
        x.days(3);
        x.turns(1, 5);
        x.rule(0, 61);
        Due.text(x, "fee s*7-b");
        Due.lay(x, "fine n*100+p+3");
        return x;
    }

    private static DustLayers imageOfLived() {
        DustLayers x = new DustLayers();
        x.seed(4242);
        for (int kind = 0; kind < 5; kind++) {
            x.surface(kind, kind + 1);
            Due.settle(x, kind, 1, kind, 3, 9 - kind);
        }
        x.rule(0, 60);
        x.rule(1, 50);
        Due.text(x, "lift n/2+1");
        x.days(4);
        x.keep();
        return x;
    }

    /** As many of everything as there may be. */
    static DustLayers brimful() {
        DustLayers x = imageOfBrimful();
        int[] told = daysTold(imageOfBrimful(), 30);
        for (int sheet = 0; sheet < 4; sheet++) {
            x.sheet(sheet, sheet / 2, 24);
            x.mark(sheet, 23, 7 + sheet);
            x.lay(sheet, 2, sheet);
        }
        x.lay(4, 1, 7);
        for (int v : told) {
            x.tell(v);
        }
        Due.text(x, "lift 1");
        Due.lay(x, "fine n*100+p" + "+1".repeat(42));
        return x;
    }

    private static DustLayers imageOfBrimful() {
        DustLayers x = new DustLayers();
        x.seed(-99);
        x.deal(8);
        for (int k = 0; k < 8; k++) {
            Due.settle(x, k, 0, 1, 2, 3, 4, 5, 6, 7, 8, 9, k, 8 - k, 5);
        }
        for (int k = 0; k < 13; k++) {
            Due.text(x, (k % 2 == 0 ? "fine n+" : "fee s+") + k);
        }
        x.keep();
        return x;
    }

    static int[] daysTold(DustLayers x, int n) {
        int[] told = new int[2 * n];
        for (int k = 0; k < n; k++) {
            x.days(1);
            told[2 * k] = x.hall(0);
            told[2 * k + 1] = x.hall(3);
        }
        return told;
    }

    /** The last day has come; nothing is swept, and one shelf is full. */
    static DustLayers lastDay() {
        return onDay(9999);
    }

    static DustLayers onDay(int day) {
        DustLayers x = new DustLayers();
        x.surface(0, 0);
        x.rule(0, 0);
        for (int left = day; left > 0; left -= 100) {
            x.days(Math.min(100, left));
        }
        return x;
    }
}
