/** Terms 5, promises 35 to 48: each boundary that the document names, at it and on both sides of it. */
public final class SheetEdgesTest {
    private static final int BAD = -1000000001, NO = -1000000002, FULL = -1000000003, NONE = -1000000005;
    private static final int NOTHING = -1000000011, KIND = -1000000012, INDEX = -1000000013, SIZE = -1000000014;
    private static final Due due = new Due();

    public static void main(String[] args) {
        sheetRefusals();
        slotRefusals();
        twentyFourPlaces();
        missingWhateverN();
        allZeroAgain();
        lowestSixteenBits();
        floatsWithin();
        noNumber();
        poursWithin();
        poursBeyond();
        readsOnlyNumbers();
        readsBeyondSurfaces();
        copiesAsTheyWere();
        copiesNone();
        copiesUpToTheEnds();
        slotsHoldWhatWas();
        asksByKind();
        itemsOfARow();
        restsOfANumber();
        sixtyWait();
        checkedWhateverIsAnswered();
        firstThatIsNot();
        missingOrOneTooMany();
        thirtyDays();
        fewerDaysAtTheEnd();
        checkedByTheImage();
        noImage();
        backAgainAndAgain();
        newBehindBack();
        imageKeepsNot();
        imageOfAnImage();
        countsAll();
        due.end("SheetEdgesTest");
    }

    private static void row(String what, DustLayers x, int sheet, int... places) {
        x.lay(0, 2, sheet);
        for (int k = 0; k < places.length; k++) {
            due.is(what + ", place " + k, x.item(0, k), places[k] == NONE ? KIND : places[k]);
        }
        due.is(what + ", no more places", x.item(0, places.length), INDEX);
    }

    /** Sheet 0: 2 shorts; 1: 3 floats, the second NO NUMBER; 2: shorts without places; 3: MISSING. */
    private static void sheetRefusals() {
        Refused r = new Refused(due, "lived", Refused::lived);
        r.by("35: below 0 places", SIZE, x -> x.sheet(0, 0, -1));
        r.by("35: below 0 places", SIZE, x -> x.sheet(3, 1, Integer.MIN_VALUE));
        r.by("35: below 0 places of no SHEET", BAD, x -> x.sheet(4, 0, -1));
        r.by("35: below 0 places of no sort", BAD, x -> x.sheet(0, 2, -1));
        r.by("35: MISSING, no SHEET", BAD, x -> x.sheet(-1, -1, 0));
        r.by("36: MISSING", NOTHING, x -> x.mark(3, 0, 0));
        r.by("36: MISSING, no place", NOTHING, x -> x.mark(3, -1, NONE));
        r.by("36: no place", INDEX, x -> x.mark(0, 2, 5));
        r.by("36: no place", INDEX, x -> x.mark(0, -1, 5));
        r.by("36: no place, NONE", INDEX, x -> x.mark(0, 2, NONE));
        r.by("36: no places", INDEX, x -> x.mark(2, 0, 5));
        r.by("36: far out", INDEX, x -> x.mark(1, Integer.MAX_VALUE, 5));
        r.by("36: far out", INDEX, x -> x.mark(1, Integer.MIN_VALUE, 5));
        r.by("36: no place, v", INDEX, x -> x.mark(1, 3, 100000));
        r.by("36: NONE in shorts", KIND, x -> x.mark(0, 1, NONE));
        r.by("36: a float too large", BAD, x -> x.mark(1, 0, 100000));
        r.by("36: a float too small", BAD, x -> x.mark(1, 0, -100000));
        r.by("36: a float too large", BAD, x -> x.mark(1, 0, Integer.MAX_VALUE));
        r.by("36: a float next to NONE", BAD, x -> x.mark(1, 0, NONE - 1));
        r.by("36: a float next to NONE", BAD, x -> x.mark(1, 0, NONE + 1));
        r.by("37: MISSING", NOTHING, x -> x.pour(3));
        r.by("38: MISSING", NOTHING, x -> x.reads(3));
        r.by("39: from MISSING", NOTHING, x -> x.copy(3, 0, 0, 0, 1));
        r.by("39: to MISSING", NOTHING, x -> x.copy(0, 0, 3, 0, 1));
        r.by("39: from and to MISSING", NOTHING, x -> x.copy(3, 0, 3, 0, 0));
        r.by("39: from MISSING to none", BAD, x -> x.copy(3, 0, 4, 0, 1));
        r.by("39: from none to MISSING", BAD, x -> x.copy(-1, 0, 3, 0, 1));
        r.by("39: from floats to MISSING, no place", NOTHING, x -> x.copy(1, 9, 3, 0, 1));
        r.by("39: not of one sort", KIND, x -> x.copy(0, 0, 1, 0, 1));
        r.by("39: not of one sort", KIND, x -> x.copy(1, 0, 0, 0, 1));
        r.by("39: not of one sort, no place", KIND, x -> x.copy(1, 3, 0, -1, 1));
        r.by("39: not of one sort, none", KIND, x -> x.copy(1, 0, 0, 0, 0));
        r.by("39: beyond from", INDEX, x -> x.copy(0, 1, 0, 0, 2));
        r.by("39: beyond to", INDEX, x -> x.copy(0, 0, 0, 1, 2));
        r.by("39: below from", INDEX, x -> x.copy(0, -1, 0, 0, 1));
        r.by("39: below to", INDEX, x -> x.copy(0, 0, 0, -1, 1));
        r.by("39: below 0 places", INDEX, x -> x.copy(0, 1, 0, 1, -1));
        r.by("39: below 0 places", INDEX, x -> x.copy(0, 0, 0, 0, Integer.MIN_VALUE));
        r.by("39: too many places", INDEX, x -> x.copy(0, 1, 0, 1, Integer.MAX_VALUE));
        r.by("39: far from", INDEX, x -> x.copy(0, Integer.MAX_VALUE, 0, 0, 1));
        r.by("39: far to", INDEX, x -> x.copy(0, 0, 0, Integer.MAX_VALUE, Integer.MAX_VALUE));
        r.by("39: none from beyond", INDEX, x -> x.copy(0, 3, 0, 0, 0));
        r.by("39: none to beyond", INDEX, x -> x.copy(0, 0, 0, 3, 0));
        r.by("39: to a row without places", INDEX, x -> x.copy(0, 0, 2, 0, 1));
        r.by("39: from a row without places", INDEX, x -> x.copy(2, 0, 0, 0, 1));
    }

    /** Slot 0: an ARCHIVE; 1: floats; 2: the number -17; 3: nothing; 4: a row without places. */
    private static void slotRefusals() {
        Refused r = new Refused(due, "lived", Refused::lived);
        r.by("40: a MISSING SHEET", NOTHING, x -> x.lay(0, 2, 3));
        r.by("40: a MISSING SHEET, no slot", BAD, x -> x.lay(5, 2, 3));
        r.by("40: no thing, k", BAD, x -> x.lay(0, 4, 3));
        r.by("41: nothing", NOTHING, x -> x.ask(3, 5));
        r.by("41: nothing, no KIND", BAD, x -> x.ask(3, 6));
        r.by("41: a SHEET", KIND, x -> x.ask(1, 0));
        r.by("41: a number", KIND, x -> x.ask(2, 0));
        r.by("41: a number, no KIND", BAD, x -> x.ask(2, -1));
        r.by("41: not of that KIND", KIND, x -> x.ask(0, 2));
        r.by("42: nothing", NOTHING, x -> x.item(3, -1));
        r.by("42: a SURFACE", KIND, x -> x.item(0, 0));
        r.by("42: a SURFACE, no place", KIND, x -> x.item(0, -1));
        r.by("42: a number", KIND, x -> x.item(2, 99));
        r.by("42: no place", INDEX, x -> x.item(1, 3));
        r.by("42: no place", INDEX, x -> x.item(1, -1));
        r.by("42: no places", INDEX, x -> x.item(4, 0));
        r.by("42: far out", INDEX, x -> x.item(1, Integer.MAX_VALUE));
        r.by("42: far out", INDEX, x -> x.item(1, Integer.MIN_VALUE));
        r.by("42: NO NUMBER", KIND, x -> x.item(1, 1));
        r.by("43: nothing", NOTHING, x -> x.rest(3, 0));
        r.by("43: a SURFACE by 0", KIND, x -> x.rest(0, 0));
        r.by("43: a SHEET by 0", KIND, x -> x.rest(1, 0));
        r.by("43: by 0", NO, x -> x.rest(2, 0));
        Refused fresh = new Refused(due, "fresh", DustLayers::new);
        fresh.by("47: no IMAGE", NO, x -> x.back());
        fresh.by("45: no IMAGE", NO, x -> x.check(1));
        fresh.by("45: no IMAGE, n", BAD, x -> x.check(0));
        Refused b = new Refused(due, "brimful", Refused::brimful);
        b.by("44: 60 wait", FULL, x -> x.tell(5));
    }

    // ---- SHEETS

    private static void twentyFourPlaces() {
        DustLayers x = new DustLayers();
        for (int sheet = 0; sheet < 4; sheet++) {
            for (int sort = 0; sort < 2; sort++) {
                for (int n : new int[] {0, 1, 23, 24}) {
                    due.is(n + " places", x.sheet(sheet, sort, n), n);
                    due.is("the last one", x.mark(sheet, n - 1, 5), n == 0 ? INDEX : 1);
                    due.is("one beyond", x.mark(sheet, n, 5), INDEX);
                }
                due.is("25 places", x.sheet(sheet, sort, 25), BAD);
                due.is("24 are left", x.mark(sheet, 23, 6), 1);
                due.is("-1 places", x.sheet(sheet, sort, -1), SIZE);
                due.is("24 are left", x.mark(sheet, 23, 7), 1);
            }
        }
    }

    private static void missingWhateverN() {
        for (int n : new int[] {Integer.MIN_VALUE, -1, 0, 24, 25, Integer.MAX_VALUE}) {
            DustLayers x = new DustLayers();
            due.is("it is MISSING", x.sheet(2, -1, n), 0);
            x.sheet(2, 1, 3);
            due.is("it is there", x.mark(2, 0, 1), 1);
            due.is("MISSING with " + n, x.sheet(2, -1, n), 0);
            due.is("MISSING", x.mark(2, 0, 1), NOTHING);
            due.is("MISSING", x.lay(0, 2, 2), NOTHING);
        }
    }

    private static void allZeroAgain() {
        DustLayers x = new DustLayers();
        Due.row(x, 0, 1, 5, NONE, -7);
        x.sheet(0, 1, 3);
        row("floats again", x, 0, 0, 0, 0);
        Due.row(x, 0, 1, 5, NONE, -7);
        x.sheet(0, 0, 3);
        row("shorts now", x, 0, 0, 0, 0);
        Due.row(x, 0, 1, 5, NONE, -7);
        x.sheet(0, -1, 0);
        x.sheet(0, 0, 2);
        row("shorts again", x, 0, 0, 0);
        x.sheet(0, 0, 3);
        row("one place more", x, 0, 0, 0, 0);
    }

    private static void lowestSixteenBits() {
        int[] told = {32767, 32768, -32768, -32769, 65535, 65536, 65537, -65536, 100000, -100000,
            Integer.MAX_VALUE, Integer.MIN_VALUE, NONE + 1, NONE - 1, BAD};
        DustLayers x = new DustLayers();
        x.sheet(0, 0, 1);
        for (int v : told) {
            due.is("mark " + v, x.mark(0, 0, v), 1);
            int bits = Math.floorMod(v, 65536);
            row("mark " + v, x, 0, bits < 32768 ? bits : bits - 65536);
        }
        x.mark(0, 0, 44);
        due.is("NONE", x.mark(0, 0, NONE), KIND);
        row("it stays", x, 0, 44);
    }

    private static void floatsWithin() {
        DustLayers x = new DustLayers();
        x.sheet(0, 1, 1);
        for (int v : new int[] {-99999, -99998, -32769, -1, 0, 1, 32768, 65536, 99998, 99999}) {
            due.is("mark " + v, x.mark(0, 0, v), 1);
            row("mark " + v, x, 0, v);
        }
        for (int v : new int[] {-100000, 100000, Integer.MIN_VALUE, Integer.MAX_VALUE, BAD, NO}) {
            due.is("mark " + v, x.mark(0, 0, v), BAD);
            row("it stays", x, 0, 99999);
        }
    }

    private static void noNumber() {
        DustLayers x = new DustLayers();
        x.surface(0, 4);
        x.surface(0, 4);
        Due.row(x, 0, 1, 5, 6);
        due.is("NO NUMBER", x.mark(0, 0, NONE), 1);
        row("NO NUMBER", x, 0, NONE, 6);
        due.is("a number again", x.mark(0, 0, 5), 1);
        row("a number again", x, 0, 5, 6);
        x.mark(0, 1, NONE);
        x.sheet(1, 1, 2);
        x.copy(0, 0, 1, 0, 2);
        row("it is copied", x, 1, 5, NONE);
        due.is("it is not poured", x.pour(1), 1);
        due.is("DAMP stays", x.told(1, 1), 4);
        due.is("it is not read", x.reads(1), 0);
    }

    private static void poursWithin() {
        int[] told = {-99999, -1, 0, 1, 8, 9, 10, 99999};
        int[] damp = {0, 0, 0, 1, 8, 9, 9, 9};
        DustLayers x = new DustLayers();
        for (int k = 0; k < 8; k++) {
            x.surface(0, 5);
        }
        Due.row(x, 0, 1, told);
        due.is("all are otherwise", x.pour(0), 8);
        for (int k = 0; k < 8; k++) {
            due.is("DAMP by " + told[k], x.told(k, 1), damp[k]);
        }
        due.is("none is otherwise", x.pour(0), 0);
        x.damp(7, 8);
        due.is("one is otherwise", x.pour(0), 1);
        x.sheet(1, 0, 8);
        x.mark(1, 0, -32768);
        x.mark(1, 1, 32767);
        due.is("by shorts: six", x.pour(1), 6);
        due.is("DAMP", x.told(0, 1), 0);
        due.is("DAMP", x.told(1, 1), 9);
    }

    private static void poursBeyond() {
        DustLayers x = new DustLayers();
        x.sheet(0, 0, 24);
        due.is("no SURFACES", x.pour(0), 0);
        for (int k = 0; k < 3; k++) {
            x.surface(0, 7);
        }
        x.sheet(1, 0, 2);
        due.is("two places", x.pour(1), 2);
        due.is("beyond the SHEET it stays", x.told(2, 1), 7);
        due.is("24 places, one is otherwise", x.pour(0), 1);
        due.is("beyond it stays no more", x.told(2, 1), 0);
        x.surface(0, 7);
        due.is("a new SURFACE has its own DAMP", x.told(3, 1), 7);
    }

    private static void readsOnlyNumbers() {
        DustLayers x = new DustLayers();
        x.surface(0, 0);
        x.surface(0, 0);
        x.surface(0, 0);
        for (int k = 0; k < 12; k++) {
            x.settles(2, 1);
        }
        x.settles(1, 1);
        Due.row(x, 0, 0, 0, 1, 12);
        due.is("none, one, twelve", x.reads(0), NONE);
        int[][] wrong = {{-1, 1, 12}, {1, 1, 12}, {0, 0, 12}, {0, 2, 12}, {0, 1, 11}, {0, 1, 13}};
        for (int k = 0; k < 6; k++) {
            Due.row(x, 0, 1, wrong[k]);
            due.is("the first that is not", x.reads(0), k / 2);
        }
        Due.row(x, 0, 1, NONE, 2, 13);
        due.is("behind NO NUMBER", x.reads(0), 1);
        Due.row(x, 0, 1, NONE, NONE, NONE);
        due.is("no numbers", x.reads(0), NONE);
    }

    private static void readsBeyondSurfaces() {
        DustLayers x = new DustLayers();
        x.sheet(0, 1, 1);
        due.is("no SURFACE: 0 is not", x.reads(0), 0);
        x.surface(0, 0);
        due.is("a bare SURFACE: 0 is", x.reads(0), NONE);
        x.sheet(0, 1, 24);
        due.is("the first that is no SURFACE", x.reads(0), 1);
        for (int k = 1; k < 23; k++) {
            x.mark(0, k, NONE);
        }
        due.is("the last place", x.reads(0), 23);
        x.mark(0, 23, NONE);
        due.is("no numbers", x.reads(0), NONE);
        x.sheet(0, 1, 0);
        due.is("no places", x.reads(0), NONE);
    }

    private static void copiesAsTheyWere() {
        DustLayers x = new DustLayers();
        Due.row(x, 0, 0, 1, 2, 3, 4, 5);
        due.is("one up", x.copy(0, 0, 0, 1, 4), 4);
        row("one up", x, 0, 1, 1, 2, 3, 4);
        Due.row(x, 0, 0, 1, 2, 3, 4, 5);
        due.is("one down", x.copy(0, 1, 0, 0, 4), 4);
        row("one down", x, 0, 2, 3, 4, 5, 5);
        Due.row(x, 0, 0, 1, 2, 3, 4, 5);
        due.is("onto themselves", x.copy(0, 0, 0, 0, 5), 5);
        row("onto themselves", x, 0, 1, 2, 3, 4, 5);
        Due.row(x, 1, 0, 9, 9, 9);
        due.is("to another", x.copy(0, 2, 1, 1, 2), 2);
        row("to another", x, 1, 9, 3, 4);
        row("those that were copied stay", x, 0, 1, 2, 3, 4, 5);
        Due.row(x, 2, 1, 70000, NONE);
        x.sheet(3, 1, 3);
        due.is("floats", x.copy(2, 0, 3, 1, 2), 2);
        row("floats", x, 3, 0, 70000, NONE);
    }

    private static void copiesNone() {
        DustLayers x = new DustLayers();
        Due.row(x, 0, 0, 1, 2);
        x.sheet(1, 0, 0);
        due.is("none, from the first", x.copy(0, 0, 0, 1, 0), 0);
        due.is("none, from right behind the last", x.copy(0, 2, 0, 2, 0), 0);
        due.is("none, to no places", x.copy(0, 0, 1, 0, 0), 0);
        due.is("none, from no places", x.copy(1, 0, 0, 0, 0), 0);
        row("as it was", x, 0, 1, 2);
    }

    private static void copiesUpToTheEnds() {
        DustLayers x = new DustLayers();
        x.sheet(0, 0, 24);
        x.sheet(1, 0, 24);
        x.mark(0, 23, 8);
        due.is("all", x.copy(0, 0, 1, 0, 24), 24);
        due.is("one more than all", x.copy(0, 0, 1, 0, 25), INDEX);
        due.is("the last to the first", x.copy(0, 23, 1, 0, 1), 1);
        due.is("one beyond the last", x.copy(0, 24, 1, 0, 1), INDEX);
        due.is("two from the last", x.copy(0, 23, 1, 0, 2), INDEX);
        due.is("the first to the last", x.copy(0, 0, 1, 23, 1), 1);
        due.is("to one beyond the last", x.copy(0, 0, 1, 24, 1), INDEX);
        due.is("two to the last", x.copy(0, 0, 1, 23, 2), INDEX);
        x.lay(0, 2, 1);
        due.is("the first", x.item(0, 0), 8);
        due.is("the last", x.item(0, 23), 0);
    }

    // ---- SLOTS

    private static void slotsHoldWhatWas() {
        DustLayers x = new DustLayers();
        x.surface(2, 0);
        Due.settle(x, 0, 1, 2, 3);
        Due.row(x, 0, 1, 4, NONE);
        for (int slot = 0; slot < 5; slot++) {
            due.is("nothing", x.lay(slot, 1, 0), 0);
            due.is("a SURFACE", x.lay(slot, 2, 0), 1);
            due.is("a SHEET", x.lay(slot, 3, Integer.MIN_VALUE), 2);
            due.is("a number", x.lay(slot, 3, Integer.MAX_VALUE), 3);
            due.is("a number", x.lay(slot, 0, Integer.MIN_VALUE), 3);
            due.is("nothing", x.lay(slot, 0, Integer.MAX_VALUE), 0);
        }
        x.lay(0, 1, 0);
        x.lay(1, 2, 0);
        x.keep();
        x.settles(0, 4);
        x.turns(0, 5);
        x.mark(0, 0, 5);
        x.mark(0, 1, 5);
        due.is("the SURFACE as it was then", x.ask(0, 2), 21);
        due.is("the SURFACE as it was then", x.ask(0, 5), KIND);
        due.is("the SHEET as it was then", x.item(1, 0), 4);
        due.is("the SHEET as it was then", x.item(1, 1), KIND);
        x.sheet(0, 0, 24);
        due.is("the SHEET as it was then", x.item(1, 2), INDEX);
        x.sheet(0, -1, 0);
        due.is("the SHEET as it was then", x.item(1, 0), 4);
        x.back();
        due.is("for good", x.ask(0, 0), 21);
        due.is("one SLOT is not another", x.lay(2, 0, 0), 0);
    }

    private static void asksByKind() {
        String[] above = {"0", "01", "02", "013", "024", "05"};
        int[] worth = {3, 7, 21, 14, 18, 7};
        DustLayers x = new DustLayers();
        for (int kind = 0; kind < 6; kind++) {
            x.surface(kind, 0);
            Due.settle(x, kind, 1, 2, 3);
            x.lay(4, 1, kind);
            for (int wanted = 0; wanted < 6; wanted++) {
                boolean is = above[kind].indexOf('0' + wanted) >= 0;
                due.is(kind + " taken for " + wanted, x.ask(4, wanted), is ? worth[kind] : KIND);
            }
            due.is("no KIND", x.ask(4, 6), BAD);
            due.is("no KIND", x.ask(4, -1), BAD);
        }
    }

    private static void itemsOfARow() {
        DustLayers x = new DustLayers();
        x.sheet(0, 0, 24);
        x.mark(0, 0, -32768);
        x.mark(0, 23, 32767);
        x.lay(4, 2, 0);
        due.is("the first", x.item(4, 0), -32768);
        due.is("the last", x.item(4, 23), 32767);
        due.is("one below", x.item(4, -1), INDEX);
        due.is("one beyond", x.item(4, 24), INDEX);
        x.sheet(0, 1, 0);
        x.lay(4, 2, 0);
        due.is("of no places", x.item(4, 0), INDEX);
    }

    private static void restsOfANumber() {
        int[] numbers = {0, 1, -1, 7, -7, Integer.MAX_VALUE, Integer.MIN_VALUE};
        int[] by = {1, -1, 2, -2, 7, Integer.MAX_VALUE, Integer.MIN_VALUE};
        DustLayers x = new DustLayers();
        for (int v : numbers) {
            x.lay(4, 3, v);
            for (int n : by) {
                long rest = (long) v - (long) n * ((long) v / n);
                due.is("the rest of " + v + " by " + n, x.rest(4, n), (int) rest);
            }
            due.is("by 0", x.rest(4, 0), NO);
        }
    }

    // ---- rows, images

    private static void sixtyWait() {
        DustLayers x = new DustLayers();
        for (int k = 1; k <= 60; k++) {
            due.is("tell", x.tell(k % 2 == 0 ? Integer.MIN_VALUE : Integer.MAX_VALUE), k);
            due.is("how many wait", x.count(5), k);
        }
        for (int k = 0; k < 3; k++) {
            due.is("the sixty-first", x.tell(0), FULL);
            due.is("how many wait", x.count(5), 60);
        }
        x.check(1);
        due.is("the first again", x.tell(0), 1);
    }

    private static void checkedWhateverIsAnswered() {
        DustLayers x = new DustLayers();
        x.tell(1);
        due.is("NO", x.check(1), NO);
        due.is("none wait", x.count(5), 0);
        x.tell(1);
        due.is("BAD ahead of NO", x.check(31), BAD);
        due.is("none wait", x.count(5), 0);
        x.keep();
        x.tell(1);
        due.is("BAD", x.check(0), BAD);
        due.is("none wait", x.count(5), 0);
        x.tell(1);
        due.is("the first is not", x.check(1), 1);
        due.is("none wait", x.count(5), 0);
        x.tell(0);
        x.tell(0);
        due.is("right", x.check(1), 0);
        due.is("none wait", x.count(5), 0);
    }

    private static DustLayers kept() {
        DustLayers x = new DustLayers();
        x.seed(31);
        x.deal(6);
        x.rule(0, 80);
        x.rule(1, 40);
        x.days(12);
        x.keep();
        return x;
    }

    private static int checked(DustLayers x, int[] told, int many, int n) {
        for (int k = 0; k < many; k++) {
            x.tell(told[k]);
        }
        return x.check(n);
    }

    private static void firstThatIsNot() {
        int[] told = Refused.daysTold(kept(), 30);
        for (int wrong = 0; wrong < 60; wrong++) {
            int[] spoilt = told.clone();
            spoilt[wrong]++;
            due.is("wrong at " + wrong, checked(kept(), spoilt, 60, 30), 1 + wrong);
            spoilt[59] += 5;
            due.is("of several the first", checked(kept(), spoilt, 60, 30), 1 + wrong);
        }
    }

    private static void missingOrOneTooMany() {
        int[] told = Refused.daysTold(kept(), 30);
        for (int n = 1; n <= 30; n++) {
            due.is(n + " DAYS", checked(kept(), told, 2 * n, n), 0);
            due.is("one is missing of " + n, checked(kept(), told, 2 * n - 1, n), 2 * n);
            if (n < 30) {
                due.is("one too many for " + n, checked(kept(), told, 2 * n + 1, n), 2 * n + 1);
                due.is("many too many for " + n, checked(kept(), told, 60, n), 2 * n + 1);
            }
            due.is("all are missing", checked(kept(), told, 0, n), 1);
        }
    }

    private static void thirtyDays() {
        int[] told = Refused.daysTold(kept(), 30);
        DustLayers x = kept();
        due.is("29", checked(x, told, 58, 29), 0);
        due.is("30", checked(x, told, 60, 30), 0);
        due.is("31", checked(x, told, 60, 31), BAD);
        due.is("1", checked(x, told, 2, 1), 0);
        due.is("0", checked(x, told, 0, 0), BAD);
        due.is("-1", checked(x, told, 0, -1), BAD);
        due.same("nothing changes", Refused.seen(Refused.Side.HALL, x), Refused.seen(Refused.Side.HALL, kept()));
        due.same("nor THE IMAGE", Refused.seen(Refused.Side.IMAGE, x), Refused.seen(Refused.Side.IMAGE, kept()));
    }

    private static void fewerDaysAtTheEnd() {
        int[] told = new int[60];
        for (int k = 0; k < 30; k++) {
            told[2 * k + 1] = 12;
        }
        for (int left : new int[] {0, 1, 2, 29, 30, 31}) {
            DustLayers x = Refused.onDay(9999 - left);
            x.keep();
            int due30 = 2 * Math.min(30, left);
            due.is("with " + left + " left", checked(x, told, due30, 30), 0);
            due.is("one too many with " + left + " left", checked(x, told, Math.min(60, due30 + 1), 30), due30 == 60 ? 0 : due30 + 1);
            due.is("one asked with " + left + " left", checked(x, told, Math.min(2, due30), 1), 0);
        }
        DustLayers x = Refused.onDay(9998);
        x.keep();
        x.days(1);
        due.is("THE DAY of THE IMAGE", checked(x, told, 2, 30), 0);
    }

    private static void checkedByTheImage() {
        int[] told = Refused.daysTold(kept(), 3);
        DustLayers x = kept();
        x.rule(0, 0);
        x.rule(1, 0);
        x.seed(5);
        x.days(7);
        x.deal(8);
        x.turns(0, 5);
        x.sweeps(1);
        Due.text(x, "lift 9");
        due.is("whatever has changed since", checked(x, told, 6, 3), 0);
        x.keep();
        due.is("by the newest IMAGE", checked(x, told, 6, 3) == 0 ? 1 : 0, 0);
    }

    private static void noImage() {
        DustLayers x = new DustLayers();
        x.surface(0, 0);
        due.is("none", x.back(), NO);
        due.is("all stays", x.count(0), 1);
        due.is("keep", x.keep(), 1);
        due.is("one", x.back(), 1);
        DustLayers y = new DustLayers();
        due.is("an IMAGE of none", y.keep(), 0);
        y.deal(8);
        due.is("back to none", y.back(), 0);
        due.is("none", y.count(0), 0);
        due.is("the first one again", y.surface(1, 1), 0);
    }

    private static void backAgainAndAgain() {
        DustLayers x = Refused.lived();
        x.back();
        Object was = Refused.seen(Refused.Side.HALL, x);
        for (int k = 0; k < 3; k++) {
            x.days(9);
            x.surface(5, 5);
            x.settles(0, 3);
            x.damp(1, 9);
            x.rule(0, k);
            x.rule(1, k);
            x.seed(k);
            Due.text(x, "fine 9");
            due.is("back", x.back(), 5);
            due.same("as THE IMAGE", Refused.seen(Refused.Side.HALL, x), was);
            due.is("fine", x.fine(0), x.told(0, 2));
        }
    }

    /** A SURFACE that comes where another one was is a new one. */
    private static void newBehindBack() {
        DustLayers x = new DustLayers();
        x.keep();
        x.surface(3, 9);
        for (int k = 0; k < 14; k++) {
            x.settles(0, 8);
        }
        x.back();
        due.is("none is PRESSED", x.hall(2), 0);
        due.is("its number", x.surface(1, 2), 0);
        int[] told = {1, 2, 0, 0};
        for (int what = 0; what < 4; what++) {
            due.is("told " + what, x.told(0, what), told[what]);
        }
        due.is("no LAYERS", x.layer(0, 0), NONE);
        x.back();
        x.surface(3, 9);
        for (int k = 0; k < 14; k++) {
            x.settles(0, 8);
        }
        x.back();
        x.deal(1);
        due.is("a drawn one, too", x.told(0, 2), 0);
        due.is("a drawn one, too", x.told(0, 3), 0);
    }

    private static void imageKeepsNot() {
        DustLayers x = new DustLayers();
        Due.row(x, 0, 0, 1);
        x.lay(0, 3, 5);
        x.tell(1);
        x.feed(0, 0, 0);
        x.keep();
        Due.row(x, 0, 0, 2, 3);
        x.sheet(1, 1, 4);
        x.lay(1, 3, 6);
        x.tell(2);
        x.feed(0, 0, 0);
        x.back();
        due.is("numbers that wait stay", x.count(5), 2);
        due.is("THE TAPE stays", x.count(6), 24);
        due.is("SLOTS stay", x.rest(1, 100), 6);
        row("SHEETS stay", x, 0, 2, 3);
        due.is("SHEETS stay", x.mark(1, 3, 1), 1);
    }

    private static void imageOfAnImage() {
        DustLayers x = new DustLayers();
        x.surface(0, 0);
        x.keep();
        x.surface(0, 0);
        due.is("two", x.keep(), 2);
        x.surface(0, 0);
        due.is("the newest IMAGE", x.back(), 2);
        due.is("the newest IMAGE, again", x.back(), 2);
    }

    private static void countsAll() {
        DustLayers x = Refused.brimful();
        int[] counts = {8, 0, 20, 10, 14, 60, 96};
        for (int what = 0; what < 7; what++) {
            due.is("count " + what, x.count(what), counts[what]);
        }
        due.is("count 8", x.count(8), BAD);
        due.is("count -1", x.count(-1), BAD);
        x.seed(BAD);
        due.is("z may be any number", x.count(7), BAD);
        due.is("count 1 on the last day", Refused.lastDay().count(1), 9999);
    }
}
