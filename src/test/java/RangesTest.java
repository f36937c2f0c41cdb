/**
 * Promises 2 to 48: every argument that has bounds, right at them, one on this side and one beyond,
 * and far out; a refused call answers BAD and changes nothing.
 */
public final class RangesTest {
    private static final int BAD = -1000000001;
    private static final Due due = new Due();

    public static void main(String[] args) {
        Refused lived = new Refused(due, "lived", Refused::lived);
        Refused brimful = new Refused(due, "brimful", Refused::brimful);
        Refused fresh = new Refused(due, "fresh", DustLayers::new);
        surfaces(lived, 5);
        surfaces(brimful, 8);
        readings(lived, 5);
        readings(brimful, 8);
        willBe(lived, 5);
        willBe(brimful, 8);
        texts(lived, 2, 14);
        texts(brimful, 14, 96);
        texts(fresh, 0, 0);
        sheetsAndSlots(lived, 5);
        sheetsAndSlots(brimful, 8);
        counts(lived);
        counts(brimful);
        counts(fresh);
        newSurfaces(lived);
        newSurfaces(fresh);
        noSurfaces(fresh);
        due.end("RangesTest");
    }

    private static void newSurfaces(Refused r) {
        r.range("2: surface, kind", 0, 5, (x, v) -> x.surface(v, 0));
        r.range("2: surface, damp", 0, 9, (x, v) -> x.surface(0, v));
        r.by("2: surface, both", BAD, x -> x.surface(6, 10));
        r.range("12: deal", 1, 8, (x, v) -> x.deal(v));
    }

    private static void surfaces(Refused r, int many) {
        r.range("3: told, surface", 0, many - 1, (x, v) -> x.told(v, 2));
        r.range("3: told, what", 0, 6, (x, v) -> x.told(0, v));
        r.range("4: layer, surface", 0, many - 1, (x, v) -> x.layer(v, 0));
        r.range("4: layer, k", 0, 11, (x, v) -> x.layer(0, v));
        r.range("5: as, surface", 0, many - 1, (x, v) -> x.as(v, 0));
        r.range("5: as, kind", 0, 5, (x, v) -> x.as(0, v));
        r.range("6: turns, surface", 0, many - 1, (x, v) -> x.turns(v, 2));
        r.range("6: turns, kind", 0, 5, (x, v) -> x.turns(0, v));
        r.range("7: damp, surface", 0, many - 1, (x, v) -> x.damp(v, 8));
        r.range("7: damp, v", 0, 9, (x, v) -> x.damp(0, v));
        r.range("8: rule, what", 0, 1, (x, v) -> x.rule(v, 33));
        r.range("8: rule, v of BROOM", 0, 100, (x, v) -> x.rule(0, v));
        r.range("8: rule, v of DRAUGHT", 0, 100, (x, v) -> x.rule(1, v));
        r.range("9: settles, surface", 0, many - 1, (x, v) -> x.settles(v, 7));
        r.range("9: settles, deed", 0, 9, (x, v) -> x.settles(0, v));
        r.range("10: sweeps, surface", 0, many - 1, (x, v) -> x.sweeps(v));
        r.range("11: lifts, surface", 0, many - 1, (x, v) -> x.lifts(v, 0));
        r.range("11: lifts, k", 0, 11, (x, v) -> x.lifts(0, v));
        r.range("12: deal", 1, 8, (x, v) -> x.deal(v));
        r.range("14: days", 1, 100, (x, v) -> x.days(v));
        r.range("15: hall", 0, 4, (x, v) -> x.hall(v));
    }

    private static void readings(Refused r, int many) {
        r.range("16: lies, sheet", 0, 3, (x, v) -> x.lies(v));
        r.range("17: proof, sheet", 0, 3, (x, v) -> x.proof(v, 0));
        r.range("17: proof, surface", 0, many - 1, (x, v) -> x.proof(0, v));
        r.range("18: common, one", 0, many - 2, (x, v) -> x.common(v >= many - 1 ? v + 1 : v, many - 1, -1));
        r.range("18: common, other", 1, many - 1, (x, v) -> x.common(0, v, -1));
        r.range("18: common, what", -1, 11, (x, v) -> x.common(0, 1, v));
        for (int k = 0; k < many; k++) {
            int one = k;
            r.by("18: common, one and the same", BAD, x -> x.common(one, one, -1));
        }
        r.by("18: common, one and the same, none", BAD, x -> x.common(many, many, 0));
        r.range("19: hiding, sheet", 0, 3, (x, v) -> x.hiding(v, 0));
        r.range("19: hiding, surface", 0, many - 1, (x, v) -> x.hiding(0, v));
        r.range("20: alike", 0, 1, (x, v) -> x.alike(v));
        r.range("21: forged", 0, 1, (x, v) -> x.forged(v));
    }

    private static void willBe(Refused r, int many) {
        r.range("22: behind, n", 0, 100, (x, v) -> x.behind(v, 0));
        r.range("22: behind, what", 0, 2 + many, (x, v) -> x.behind(1, v));
        r.range("23: gone, sheet", 0, 3, (x, v) -> x.gone(v, 0));
        r.range("23: gone, surface", 0, many - 1, (x, v) -> x.gone(0, v));
        r.range("24: safe, sheet", 0, 3, (x, v) -> x.safe(v, 0));
        r.range("24: safe, what", 0, 1, (x, v) -> x.safe(0, v));
        r.range("25: becomes, surface", 0, many - 1, (x, v) -> x.becomes(v, 1, 0));
        r.range("25: becomes, n", 1, 60, (x, v) -> x.becomes(0, v, 0));
        r.range("25: becomes, what", 0, 1, (x, v) -> x.becomes(0, 1, v));
        r.range("26: kept, n", 1, 60, (x, v) -> x.kept(v, 0));
        r.range("26: kept, what", 0, 1, (x, v) -> x.kept(1, v));
        r.range("27: whose, sheet", 0, 3, (x, v) -> x.whose(v, 0));
        r.range("27: whose, what", 0, 1, (x, v) -> x.whose(0, v));
        r.range("29: fine", 0, many - 1, (x, v) -> x.fine(v));
    }

    private static void texts(Refused r, int texts, int bytes) {
        r.range("31: trim", 0, bytes, (x, v) -> x.trim(v));
        if (texts > 0) {
            r.range("33: textTold, text", 0, texts - 1, (x, v) -> x.textTold(v, 1));
            r.range("33: textTold, what", 0, 1, (x, v) -> x.textTold(0, v));
        } else {
            r.by("33: textTold, no texts", BAD, x -> x.textTold(0, 0));
            r.by("33: textTold, no texts", BAD, x -> x.textTold(-1, 0));
        }
        r.range("34: why", 0, 2, (x, v) -> x.why(v));
    }

    private static void sheetsAndSlots(Refused r, int many) {
        r.range("35: sheet, sheet", 0, 3, (x, v) -> x.sheet(v, 0, 5));
        r.range("35: sheet, sort", -1, 1, (x, v) -> x.sheet(0, v, 5));
        r.by("35: sheet, n of shorts", BAD, x -> x.sheet(0, 0, 25));
        r.by("35: sheet, n of floats", BAD, x -> x.sheet(1, 1, 25));
        r.by("35: sheet, n", BAD, x -> x.sheet(0, 0, Integer.MAX_VALUE));
        r.range("36: mark, sheet", 0, 3, (x, v) -> x.mark(v, 0, 1));
        r.range("37: pour", 0, 3, (x, v) -> x.pour(v));
        r.range("38: reads", 0, 3, (x, v) -> x.reads(v));
        r.range("39: copy, from", 0, 3, (x, v) -> x.copy(v, 0, 0, 0, 1));
        r.range("39: copy, to", 0, 3, (x, v) -> x.copy(0, 0, v, 0, 1));
        r.range("40: lay, slot", 0, 4, (x, v) -> x.lay(v, 3, 5));
        r.range("40: lay, thing", 0, 3, (x, v) -> x.lay(0, v, 0));
        r.range("40: lay, SURFACE k", 0, many - 1, (x, v) -> x.lay(0, 1, v));
        r.range("40: lay, SHEET k", 0, 3, (x, v) -> x.lay(0, 2, v));
        r.range("41: ask, slot", 0, 4, (x, v) -> x.ask(v, 0));
        r.range("41: ask, kind", 0, 5, (x, v) -> x.ask(0, v));
        r.range("42: item, slot", 0, 4, (x, v) -> x.item(v, 0));
        r.range("43: rest, slot", 0, 4, (x, v) -> x.rest(v, 1));
    }

    private static void counts(Refused r) {
        r.range("48: count", 0, 7, (x, v) -> x.count(v));
        for (int n : new int[] {Integer.MIN_VALUE, -1, 0, 31, Integer.MAX_VALUE}) {
            r.butFor(Refused.Side.WAITING, "45: check with " + n, BAD, x -> x.check(n));
        }
    }

    private static void noSurfaces(Refused r) {
        r.by("3: told of none", BAD, x -> x.told(0, 0));
        r.by("4: layer of none", BAD, x -> x.layer(0, 0));
        r.by("5: as of none", BAD, x -> x.as(0, 0));
        r.by("6: turns of none", BAD, x -> x.turns(0, 0));
        r.by("7: damp of none", BAD, x -> x.damp(0, 0));
        r.by("9: settles on none", BAD, x -> x.settles(0, 0));
        r.by("10: sweeps none", BAD, x -> x.sweeps(0));
        r.by("11: lifts from none", BAD, x -> x.lifts(0, 0));
        r.by("17: proof on none", BAD, x -> x.proof(0, 0));
        r.by("18: common of none", BAD, x -> x.common(0, 1, -1));
        r.by("19: hiding on none", BAD, x -> x.hiding(0, 0));
        r.by("22: behind, none", BAD, x -> x.behind(0, 3));
        r.by("23: gone on none", BAD, x -> x.gone(0, 0));
        r.by("25: becomes of none", BAD, x -> x.becomes(0, 1, 0));
        r.by("29: fine of none", BAD, x -> x.fine(0));
        r.by("40: lay none", BAD, x -> x.lay(0, 1, 0));
        r.range("22: behind, what of no SURFACES", 0, 2, (x, v) -> x.behind(0, v));
    }
}
