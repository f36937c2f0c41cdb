/** Terms 3, promises 16 to 29: each boundary that the document names, at it and on both sides of it. */
public final class ReadingEdgesTest {
    private static final int BAD = -1000000001, NONE = -1000000005, NOTHING = -1000000011, SIZE = -1000000014;
    private static final int SHELF = 0, LINTEL = 1, TABLE = 2, ARCHIVE = 3, CLOTH = 4, TOP = 5;
    private static final int[] DIGITS = {0, 1, 2, 3, 4, 5, 6, 7, 8, 9, 0, 1};
    private static final Due due = new Due();

    public static void main(String[] args) {
        refusals();
        refusalsOfNoSurfaces();
        placesThatAreNoDeeds();
        rowWithoutPlaces();
        rowAsLongAsTheLayers();
        othersBetween();
        firstPlaceThatDoesNotLie();
        commonOfNone();
        commonOfTwelve();
        commonOfSeveral();
        oneLayerCountsOnce();
        everyShortRow();
        hidingEdges();
        noTwo();
        alikeOfSeveral();
        forgedOfSeveral();
        anyOneOfEight();
        behindNoDays();
        onlyThought();
        beyondTheLastDay();
        goneAtOnce();
        goneOnTheTwoHundredthDay();
        safeOfTwelvePlaces();
        safeOfSeveral();
        safePressesTheOldest();
        becomesOfSeveral();
        becomesEachKind();
        keptOfSeveral();
        keptByAnyBroom();
        whoseByNoNumbers();
        whoseOfSeveral();
        whoseByTwentyFourPlaces();
        feeAndFineWithoutTexts();
        due.end("ReadingEdgesTest");
    }

    private static DustLayers still(int... kinds) {
        DustLayers x = new DustLayers();
        for (int kind : kinds) {
            x.surface(kind, 0);
        }
        x.rule(0, 0);
        x.rule(1, 0);
        return x;
    }

    /** Sheet 3 of the state that has been lived is MISSING, sheet 2 has no places, sheet 1 has NO NUMBER. */
    private static void refusals() {
        Refused r = new Refused(due, "lived", Refused::lived);
        r.by("16: MISSING", NOTHING, x -> x.lies(3));
        r.by("16: NO NUMBER", SIZE, x -> x.lies(1));
        r.by("17: MISSING", NOTHING, x -> x.proof(3, 0));
        r.by("17: MISSING, no SURFACE", BAD, x -> x.proof(3, 5));
        r.by("17: NO NUMBER", SIZE, x -> x.proof(1, 0));
        r.by("17: NO NUMBER, no SURFACE", BAD, x -> x.proof(1, -1));
        r.by("17: no places", NONE, x -> x.proof(2, 0));
        r.by("18: no such place", NONE, x -> x.common(0, 1, 11));
        r.by("19: MISSING", NOTHING, x -> x.hiding(3, 0));
        r.by("19: MISSING, no SURFACE", BAD, x -> x.hiding(3, 5));
        r.by("19: NO NUMBER", SIZE, x -> x.hiding(1, 0));
        r.by("19: NO NUMBER, no SURFACE", BAD, x -> x.hiding(1, 5));
        r.by("19: no places", NONE, x -> x.hiding(2, 0));
        r.by("19: no places, no SURFACE", BAD, x -> x.hiding(2, 5));
        r.by("23: MISSING", NOTHING, x -> x.gone(3, 0));
        r.by("23: MISSING, no SURFACE", BAD, x -> x.gone(3, 5));
        r.by("23: NO NUMBER", SIZE, x -> x.gone(1, 0));
        r.by("23: NO NUMBER, no SURFACE", BAD, x -> x.gone(1, 5));
        r.by("23: no places", NONE, x -> x.gone(2, 0));
        r.by("24: MISSING", NOTHING, x -> x.safe(3, 0));
        r.by("24: MISSING, what", BAD, x -> x.safe(3, 2));
        r.by("24: NO NUMBER", SIZE, x -> x.safe(1, 0));
        r.by("24: NO NUMBER, what", BAD, x -> x.safe(1, -1));
        r.by("27: MISSING", NOTHING, x -> x.whose(3, 0));
        r.by("27: MISSING, what", BAD, x -> x.whose(3, 2));
        r.by("25: all wrong", BAD, x -> x.becomes(5, 0, 2));
        r.by("26: all wrong", BAD, x -> x.kept(61, 2));
        r.by("22: all wrong", BAD, x -> x.behind(101, 8));
        Refused b = new Refused(due, "brimful", Refused::brimful);
        b.by("24: more than 12 places", SIZE, x -> x.safe(0, 0));
        b.by("24: more than 12 places, what", BAD, x -> x.safe(0, 2));
    }

    private static DustLayers rowsWithoutSurfaces() {
        DustLayers x = new DustLayers();
        x.sheet(0, 0, 13);
        Due.row(x, 1, 1, NONE, 5);
        x.sheet(2, 1, 12);
        return x;
    }

    private static void refusalsOfNoSurfaces() {
        Refused r = new Refused(due, "no SURFACES", ReadingEdgesTest::rowsWithoutSurfaces);
        r.by("16: on none", 0, x -> x.lies(0));
        r.by("16: on none, SIZE all the same", SIZE, x -> x.lies(1));
        r.by("16: on none, NOTHING all the same", NOTHING, x -> x.lies(3));
        r.by("20: no two", NONE, x -> x.alike(0));
        r.by("20: no two, what", BAD, x -> x.alike(2));
        r.by("21: no two", NONE, x -> x.forged(1));
        r.by("21: no two, what", BAD, x -> x.forged(-1));
        r.by("24: SIZE ahead of NONE", SIZE, x -> x.safe(0, 0));
        r.by("24: SIZE ahead of NONE", SIZE, x -> x.safe(1, 1));
        r.by("24: no SURFACES", NONE, x -> x.safe(2, 0));
        r.by("24: NOTHING ahead of NONE", NOTHING, x -> x.safe(3, 0));
        r.by("24: BAD ahead of NONE", BAD, x -> x.safe(2, 2));
        r.by("27: no SURFACES", NONE, x -> x.whose(0, 1));
        r.by("27: NOTHING ahead of NONE", NOTHING, x -> x.whose(3, 0));
        r.by("27: BAD ahead of NONE", BAD, x -> x.whose(0, 2));
        r.by("22: SWEPT of none", 0, x -> x.behind(100, 0));
        r.by("26: the least BROOM", 0, x -> x.kept(60, 0));
        r.by("26: no LAYERS", 0, x -> x.kept(60, 1));
    }

    // ---- what is read

    private static void placesThatAreNoDeeds() {
        int[] numbers = {-32768, -1, 0, 9, 10, 32767};
        for (int sort = 0; sort < 2; sort++) {
            for (int v : numbers) {
                DustLayers x = still(SHELF);
                x.settles(0, Math.max(0, Math.min(9, v)));
                Due.row(x, 0, sort, v);
                boolean deed = v == 0 || v == 9;
                due.is("16: lies with " + v, x.lies(0), deed ? 1 : SIZE);
                due.is("17: proof with " + v, x.proof(0, 0), deed ? NONE : SIZE);
                due.is("19: hiding with " + v, x.hiding(0, 0), deed ? 1 : SIZE);
                due.isNot("23: gone with " + v, x.gone(0, 0), deed ? SIZE : 0);
                due.is("24: safe with " + v, x.safe(0, 0), deed ? 0 : SIZE);
                due.isNot("27: whose with " + v, x.whose(0, 0), SIZE);
            }
        }
        DustLayers x = still(SHELF);
        x.sheet(0, 1, 24);
        for (int bad : new int[] {10, -1, NONE}) {
            x.mark(0, 23, bad);
            due.is("16: the last place", x.lies(0), SIZE);
            due.is("17: though the first does not LIE", x.proof(0, 0), SIZE);
            due.is("19: though it can't LIE", x.hiding(0, 0), SIZE);
            due.is("23: though it can't LIE", x.gone(0, 0), SIZE);
            due.is("24: the last place", x.safe(0, 0), SIZE);
        }
        x.mark(0, 23, 0);
        due.is("16: all are DEEDS", x.lies(0), 0);
        x.mark(0, 0, 65536);
        due.is("a float is no short", x.mark(0, 0, 65536), 1);
        due.is("16: a float too large", x.lies(0), SIZE);
        Due.row(x, 1, 0, 65536);
        due.is("16: a short's lowest bits", x.lies(1), 0);
    }

    private static void rowWithoutPlaces() {
        DustLayers x = still(SHELF, TOP, CLOTH);
        x.settles(0, 1);
        for (int sort = 0; sort < 2; sort++) {
            x.sheet(0, sort, 0);
            due.is("16: it LIES on all", x.lies(0), 7);
            due.is("17: it LIES", x.proof(0, 1), NONE);
            due.is("19: it can't be hidden", x.hiding(0, 0), NONE);
            due.is("23: it is never gone", x.gone(0, 2), NONE);
            due.is("24: the least", x.safe(0, 0), 0);
            due.is("24: never", x.safe(0, 1), 201);
            due.is("27: no differences", x.whose(0, 1), 0);
            due.is("27: the least", x.whose(0, 0), 0);
            due.is("38: none", x.reads(0), NONE);
            due.is("37: none", x.pour(0), 0);
        }
    }

    private static void rowAsLongAsTheLayers() {
        DustLayers x = still(SHELF, SHELF);
        Due.settle(x, 0, DIGITS);
        Due.row(x, 0, 0, DIGITS);
        due.is("twelve on twelve", x.lies(0), 1);
        due.is("17: all twelve", x.proof(0, 0), NONE);
        due.is("19: any one", x.hiding(0, 0), 1);
        x.sheet(1, 0, 13);
        x.copy(0, 0, 1, 0, 12);
        due.is("thirteen on twelve", x.lies(1), 0);
        due.is("17: the thirteenth", x.proof(1, 0), 12);
        due.is("19: it does not LIE", x.hiding(1, 0), 0);
        due.is("23: it does not LIE", x.gone(1, 0), 0);
        due.is("17: on a bare one the first", x.proof(0, 1), 0);
        x.lifts(0, 11);
        due.is("twelve on eleven", x.lies(0), 0);
        due.is("17: the twelfth", x.proof(0, 0), 11);
    }

    private static void othersBetween() {
        DustLayers x = still(SHELF);
        Due.settle(x, 0, 5, 1, 6, 2, 7);
        Due.row(x, 0, 0, 5, 7);
        due.is("the oldest and the newest", x.lies(0), 1);
        Due.row(x, 0, 0, 7, 5);
        due.is("not in that order", x.lies(0), 0);
        due.is("17: the second", x.proof(0, 0), 1);
        Due.row(x, 0, 0, 5, 5);
        due.is("one LAYER is not two", x.lies(0), 0);
    }

    private static void firstPlaceThatDoesNotLie() {
        DustLayers x = still(SHELF);
        Due.settle(x, 0, 1, 2, 3);
        for (int k = 0; k < 3; k++) {
            Due.row(x, 0, 0, 1, 2, 3);
            x.mark(0, k, 9);
            due.is("place " + k, x.proof(0, 0), k);
        }
        Due.row(x, 0, 0, 1, 9, 3, 9);
        due.is("of several the first", x.proof(0, 0), 1);
    }

    private static void commonOfNone() {
        DustLayers x = still(SHELF, SHELF);
        due.is("two bare ones", x.common(0, 1, -1), 0);
        due.is("no first DEED", x.common(0, 1, 0), NONE);
        due.is("no twelfth DEED", x.common(0, 1, 11), NONE);
        due.is("no thirteenth place", x.common(0, 1, 12), BAD);
        Due.settle(x, 0, DIGITS);
        due.is("a full and a bare one", x.common(0, 1, -1), 0);
        due.is("a bare and a full one", x.common(1, 0, -1), 0);
        Due.settle(x, 1, 5);
        due.is("one", x.common(1, 0, -1), 1);
        due.is("its DEED", x.common(1, 0, 0), 5);
        due.is("no second", x.common(1, 0, 1), NONE);
    }

    private static void commonOfTwelve() {
        DustLayers x = still(SHELF, TOP);
        Due.settle(x, 0, DIGITS);
        Due.settle(x, 1, DIGITS);
        due.is("all twelve", x.common(0, 1, -1), 12);
        for (int k = 0; k < 12; k++) {
            due.is("place " + k, x.common(0, 1, k), DIGITS[k]);
        }
        due.is("no thirteenth place", x.common(0, 1, 12), BAD);
        x.lifts(1, 0);
        due.is("eleven", x.common(1, 0, -1), 11);
        due.is("no twelfth", x.common(1, 0, 11), NONE);
        due.is("the eleventh", x.common(1, 0, 10), 1);
    }

    private static void commonOfSeveral() {
        DustLayers x = still(SHELF, SHELF);
        Due.settle(x, 0, 9, 8, 7, 6);
        Due.settle(x, 1, 6, 7, 8, 9);
        due.is("one", x.common(0, 1, -1), 1);
        due.is("of 6, 7, 8, 9 the first", x.common(0, 1, 0), 6);
        due.is("from the other side, too", x.common(1, 0, 0), 6);
        DustLayers y = still(SHELF, SHELF);
        Due.settle(y, 0, 3, 5, 0, 3, 1);
        Due.settle(y, 1, 3, 0, 5, 1, 3);
        int[] first = {3, 0, 1};
        due.is("three", y.common(0, 1, -1), 3);
        for (int k = 0; k < 3; k++) {
            due.is("of 301, 303, 351, 353 the first: place " + k, y.common(0, 1, k), first[k]);
        }
    }

    private static void oneLayerCountsOnce() {
        DustLayers x = still(SHELF, SHELF);
        Due.settle(x, 0, 5);
        Due.settle(x, 1, 5, 5, 5, 5, 5, 5, 5, 5, 5, 5, 5, 5);
        due.is("one against twelve alike", x.common(0, 1, -1), 1);
        due.is("twelve alike against one", x.common(1, 0, -1), 1);
        due.is("no second", x.common(1, 0, 1), NONE);
        due.is("ALIKE", x.alike(1), 1);
        due.is("FORGED", x.forged(1), 1);
    }

    /** All rows of up to three of three DEEDS against all others, by trying every part of the one. */
    private static void everyShortRow() {
        for (int one = 0; one < 40; one++) {
            for (int other = 0; other < 40; other++) {
                int[] a = shortRow(one);
                int[] b = shortRow(other);
                DustLayers x = still(SHELF, SHELF);
                Due.settle(x, 0, a);
                Due.settle(x, 1, b);
                Due.row(x, 0, 0, b);
                String common = commonByTrying(a, b);
                due.is("COMMON", x.common(0, 1, -1), common.length());
                for (int k = 0; k < 4; k++) {
                    due.is("COMMON, place " + k, x.common(0, 1, k), k < common.length() ? common.charAt(k) - '0' : NONE);
                }
                due.is("LIES", x.lies(0) & 1, part(b, a) ? 1 : 0);
                due.is("HIDING", x.hiding(0, 0), b.length == 0 ? NONE : hidingByTrying(a, b));
            }
        }
    }

    /** Numbers 0 .. 39: no DEEDS, one, two, three of 0 .. 2. */
    private static int[] shortRow(int number) {
        int many = number == 0 ? 0 : number < 4 ? 1 : number < 13 ? 2 : 3;
        int rest = number - new int[] {0, 1, 4, 13}[many];
        int[] row = new int[many];
        for (int k = 0; k < many; k++) {
            row[k] = rest % 3;
            rest /= 3;
        }
        return row;
    }

    private static int[] partOf(int[] row, int set) {
        int[] part = new int[Integer.bitCount(set)];
        int many = 0;
        for (int k = 0; k < row.length; k++) {
            if ((set >> k & 1) != 0) {
                part[many] = row[k];
                many++;
            }
        }
        return part;
    }

    private static boolean part(int[] row, int[] of) {
        for (int set = 0; set < 1 << of.length; set++) {
            if (java.util.Arrays.equals(partOf(of, set), row)) {
                return true;
            }
        }
        return false;
    }

    private static String commonByTrying(int[] a, int[] b) {
        String best = "";
        for (int set = 0; set < 1 << a.length; set++) {
            int[] row = partOf(a, set);
            StringBuilder text = new StringBuilder();
            for (int deed : row) {
                text.append(deed);
            }
            boolean first = row.length > best.length() || row.length == best.length() && text.toString().compareTo(best) < 0;
            if (first && part(row, b)) {
                best = text.toString();
            }
        }
        return best;
    }

    private static int hidingByTrying(int[] layers, int[] row) {
        int fewest = layers.length;
        for (int set = 0; set < 1 << layers.length; set++) {
            int[] left = partOf(layers, set);
            if (!part(row, left)) {
                fewest = Math.min(fewest, layers.length - left.length);
            }
        }
        return fewest;
    }

    private static void hidingEdges() {
        DustLayers x = still(SHELF, SHELF);
        for (int k = 0; k < 12; k++) {
            x.settles(0, 4);
        }
        for (int n = 1; n <= 13; n++) {
            x.sheet(0, 0, n);
            for (int k = 0; k < n; k++) {
                x.mark(0, k, 4);
            }
            due.is(n + " of twelve alike", x.hiding(0, 0), 13 - n);
            due.is("on a bare one", x.hiding(0, 1), 0);
        }
        Due.settle(x, 1, 1, 2, 1, 2, 1, 2, 1, 2, 1, 2, 1, 2);
        Due.row(x, 1, 1, 1, 2);
        due.is("six pairs", x.hiding(1, 1), 6);
        Due.row(x, 1, 1, 2, 1);
        due.is("five pairs between", x.hiding(1, 1), 5);
    }

    private static void noTwo() {
        DustLayers x = new DustLayers();
        for (int many = 0; many < 3; many++) {
            for (int what = 0; what < 2; what++) {
                due.is("ALIKE of " + many, x.alike(what), many < 2 ? NONE : 1 - what);
                due.is("FORGED of " + many, x.forged(what), many < 2 ? NONE : 0);
            }
            due.is("BAD stands first", x.alike(2), BAD);
            due.is("BAD stands first", x.forged(2), BAD);
            x.surface(0, 0);
        }
    }

    private static void alikeOfSeveral() {
        DustLayers x = still(0, 0, 0, 0, 0, 0, 0, 0);
        due.is("of all the first", x.alike(0), 1);
        due.is("nothing", x.alike(1), 0);
        x.settles(7, 3);
        x.settles(6, 3);
        due.is("the last two", x.alike(0), 67);
        due.is("one DEED", x.alike(1), 1);
        x.settles(3, 3);
        due.is("by the one, then the other", x.alike(0), 36);
        x.settles(1, 3);
        due.is("by the one, then the other", x.alike(0), 13);
        x.settles(0, 3);
        due.is("by the one, then the other", x.alike(0), 1);
        Due.settle(x, 5, DIGITS);
        Due.settle(x, 2, DIGITS);
        due.is("longest", x.alike(0), 25);
        due.is("twelve DEEDS", x.alike(1), 12);
    }

    private static void forgedOfSeveral() {
        DustLayers x = still(0, 0, 0, 0, 0, 0, 0, 0);
        due.is("of all the least", x.forged(0), 0);
        for (int k = 0; k < 8; k++) {
            Due.settle(x, k, DIGITS);
        }
        due.is("of all the least", x.forged(0), 0);
        due.is("seven times twelve", x.forged(1), 84);
        x.lifts(7, 11);
        due.is("the last one", x.forged(0), 7);
        due.is("seven times eleven", x.forged(1), 77);
        x.lifts(4, 11);
        due.is("of two the least", x.forged(0), 4);
        x.lifts(7, 0);
        due.is("the least lengths", x.forged(0), 7);
        due.is("seven times ten", x.forged(1), 70);
    }

    /** Each SURFACE, and each two, can be the answer. */
    private static void anyOneOfEight() {
        for (int one = 0; one < 8; one++) {
            DustLayers x = still(0, 0, 0, 0, 0, 0, 0, 0);
            for (int k = 0; k < 8; k++) {
                Due.settle(x, k, k == one ? new int[] {1} : new int[] {1, 2});
            }
            due.is("FORGED", x.forged(0), one);
            due.is("FORGED", x.forged(1), 7);
            Due.row(x, 0, 0, 1);
            due.is("WHOSE", x.whose(0, 0), one);
            x.turns(one, CLOTH);
            due.is("SAFE", x.safe(0, 0), one);
            for (int other = one + 1; other < 8; other++) {
                DustLayers y = still(0, 0, 0, 0, 0, 0, 0, 0);
                y.settles(one, 9);
                y.settles(other, 9);
                due.is("ALIKE", y.alike(0), 10 * one + other);
                due.is("LIES", lies(y, 9), 1 << one | 1 << other);
            }
        }
    }

    private static int lies(DustLayers x, int deed) {
        Due.row(x, 0, 0, deed);
        return x.lies(0);
    }

    // ---- what will be

    private static void behindNoDays() {
        DustLayers x = Refused.lived();
        for (int what = 0; what < 3; what++) {
            due.is("behind 0 DAYS " + what, x.behind(0, what), x.hall(what));
        }
        for (int k = 0; k < 5; k++) {
            due.is("behind 0 DAYS, SURFACE " + k, x.behind(0, 3 + k), x.told(k, 2));
        }
        for (int n : new int[] {1, 99, 100}) {
            DustLayers y = Refused.lived();
            y.days(n);
            for (int what = 0; what < 3; what++) {
                due.is("behind " + n + " DAYS " + what, x.behind(n, what), y.hall(what));
            }
            for (int k = 0; k < 5; k++) {
                due.is("behind " + n + " DAYS, SURFACE " + k, x.behind(n, 3 + k), y.told(k, 2));
            }
        }
    }

    private static void onlyThought() {
        Refused r = new Refused(due, "lived", Refused::lived);
        r.by("22: behind", Refused.lived().behind(100, 0), x -> x.behind(100, 0));
        r.by("23: gone", Refused.lived().gone(0, 3), x -> x.gone(0, 3));
        r.by("24: safe", Refused.lived().safe(0, 0), x -> x.safe(0, 0));
        r.by("25: becomes", Refused.lived().becomes(4, 60, 0), x -> x.becomes(4, 60, 0));
        r.by("26: kept", Refused.lived().kept(60, 0), x -> x.kept(60, 0));
        r.by("27: whose", Refused.lived().whose(1, 0), x -> x.whose(1, 0));
        r.by("18: common", Refused.lived().common(0, 1, 0), x -> x.common(0, 1, 0));
        r.by("19: hiding", Refused.lived().hiding(0, 0), x -> x.hiding(0, 0));
    }

    /** What is thought goes on behind THE DAY 9999, and THE DAY with it. */
    private static void beyondTheLastDay() {
        DustLayers x = Refused.lastDay();
        Due.text(x, "lift (t>9999)*12");
        x.rule(0, 100);
        due.is("22: on the last day the broom takes none", x.behind(1, 0), 0);
        due.is("22: on the next one all", x.behind(2, 0), 12);
        due.is("22: none are left", x.behind(2, 3), 0);
        due.is("22: a hundred", x.behind(100, 0), 12 + 98);
        x.settles(0, 4);
        Due.row(x, 0, 0, 4);
        due.is("23: gone on the second", x.gone(0, 0), 2);
        due.is("24: gone on the second", x.safe(0, 1), 2);
        due.is("25: an ARCHIVE keeps all", x.becomes(0, 2, 0), ARCHIVE);
        due.is("25: all", x.becomes(0, 2, 1), 12);
        due.is("26: no broom", x.kept(2, 1), 12);
        Due.row(x, 1, 0, 12, 12, 0);
        due.is("27: twelve, twelve, none", x.whose(1, 1), 0);
        due.is("THE DAY stays", x.count(1), 9999);
        due.is("14: no more DAYS", x.days(1), 0);
        due.is("12 LAYERS", x.told(0, 2), 12);
        DustLayers y = Refused.lastDay();
        y.turns(0, TABLE);
        y.lifts(0, 11);
        y.lifts(0, 10);
        int caught = 0;
        int z = y.count(7);
        for (int day = 9999; day < 10001; day++) {
            z = z * 1103515245 + 12345;
            caught += ((z >>> 8) % 10 + day) % 3 == 0 ? 0 : 1;
            z = (z * 1103515245 + 12345) * 1103515245 + 12345;
        }
        due.is("CATCHES by the thought DAY", y.behind(2, 3), 10 + caught);
    }

    private static void goneAtOnce() {
        DustLayers x = still(CLOTH, TOP);
        Due.row(x, 0, 0, 4);
        due.is("it does not LIE now", x.gone(0, 0), 0);
        x.settles(0, 4);
        due.is("a dry CLOTH keeps it", x.gone(0, 0), NONE);
        due.is("the other has none", x.gone(0, 1), 0);
        DustLayers y = still(CLOTH);
        y.settles(0, 4);
        Due.row(y, 0, 0, 4);
        y.rule(0, 100);
        due.is("SWEPT on the first DAY", y.gone(0, 0), 1);
        due.is("SAFE for one DAY", y.safe(0, 1), 1);
    }

    /** A dry CLOTH is SWEPT of its one LAYER on the first DAY on which the second draw's rest is 0. */
    private static void goneOnTheTwoHundredthDay() {
        int[] wanted = {1, 2, 199, 200, 201, 202};
        for (int day : wanted) {
            int seed = seedSweptOn(day);
            DustLayers x = still(CLOTH);
            x.settles(0, 6);
            Due.row(x, 0, 0, 6);
            x.rule(0, 1);
            x.seed(seed);
            due.is("gone behind " + day, x.gone(0, 0), day <= 200 ? day : NONE);
            due.is("SAFE, gone behind " + day, x.safe(0, 1), Math.min(day, 201));
            due.is("SAFE on the only one", x.safe(0, 0), 0);
        }
    }

    private static int seedSweptOn(int day) {
        for (int seed = 0; seed < 10_000_000; seed++) {
            int z = seed * 7919;
            int k = 0;
            int rest = 1;
            while (k < 210 && rest != 0) {
                z = (z * 1103515245 + 12345) * 1103515245 + 12345;
                rest = (z >>> 8) % 100;
                z = z * 1103515245 + 12345;
                k++;
            }
            if (k == day && rest == 0) {
                return seed * 7919;
            }
        }
        throw new IllegalStateException("no such seed");
    }

    private static void safeOfTwelvePlaces() {
        DustLayers x = still(CLOTH);
        for (int n = 11; n <= 24; n++) {
            x.sheet(0, 0, n);
            due.is(n + " places", x.safe(0, 1), n <= 12 ? 201 : SIZE);
        }
        DustLayers y = still(SHELF);
        y.sheet(0, 0, 12);
        y.seed(seedOfDeed(1));
        due.is("twelve on a SHELF: the first DAY presses one", y.safe(0, 1), 1);
        y.seed(seedOfDeed(0));
        due.isNot("unless it is one alike", y.safe(0, 1), 1);
    }

    private static int seedOfDeed(int deed) {
        int seed = 0;
        while (((seed * 1103515245 + 12345) >>> 8) % 10 != deed) {
            seed++;
        }
        return seed;
    }

    private static void safeOfSeveral() {
        DustLayers x = still(TOP, CLOTH, CLOTH);
        Due.row(x, 0, 0, 1, 2);
        due.is("of two CLOTHS the least", x.safe(0, 0), 1);
        due.is("never", x.safe(0, 1), 201);
        x.turns(0, CLOTH);
        due.is("of three CLOTHS the least", x.safe(0, 0), 0);
        DustLayers y = still(0, 0, 0, 0, 0, 0, 0, CLOTH);
        Due.row(y, 0, 0, 1, 2);
        due.is("the last one", y.safe(0, 0), 7);
    }

    /** It SETTLES there now, above what lies there and, on a full one, pressing the oldest; one goes a DAY. */
    private static void safePressesTheOldest() {
        for (int had = 0; had <= 12; had++) {
            DustLayers x = still(CLOTH);
            for (int k = 0; k < had; k++) {
                x.settles(0, 7);
            }
            Due.row(x, 0, 0, 7);
            Due.text(x, "lift 0");
            x.rule(0, 100);
            due.is("one above " + had, x.safe(0, 1), Math.min(12, had + 1));
            due.is("nothing SETTLES", x.told(0, 2), had);
            due.is("nothing is PRESSED", x.told(0, 3), 0);
        }
    }

    private static void becomesOfSeveral() {
        DustLayers x = still(CLOTH);
        due.is("SHELF and TOP alike: the least", x.becomes(0, 1, 0), 0);
        due.is("one LAYER", x.becomes(0, 1, 1), 1);
        due.is("twelve", x.becomes(0, 60, 1), 12);
        due.is("of all that are full the least", x.becomes(0, 60, 0), 0);
        due.is("it stays", x.told(0, 0), CLOTH);
        Due.settle(x, 0, DIGITS);
        due.is("a full one: the least", x.becomes(0, 1, 0), 0);
        due.is("a full one: twelve", x.becomes(0, 1, 1), 12);
    }

    /** Each KIND is best somewhere: held against what comes of it when it is lived. */
    private static void becomesEachKind() {
        int seen = 0;
        for (int seed = 0; seed < 400; seed++) {
            int n = seed % 2 == 0 ? 60 : 1 + seed % 60;
            int best = -1;
            int most = -1;
            for (int kind = 0; kind < 6; kind++) {
                DustLayers lived = drawn(seed);
                lived.turns(2, kind);
                lived.days(n);
                if (lived.told(2, 2) > most) {
                    most = lived.told(2, 2);
                    best = kind;
                }
            }
            due.is("the KIND, seed " + seed, drawn(seed).becomes(2, n, 0), best);
            due.is("LAYERS, seed " + seed, drawn(seed).becomes(2, n, 1), most);
            seen |= 1 << best;
        }
        due.is("the least and the last KIND are best somewhere", seen & 0b100001, 0b100001);
    }

    private static DustLayers drawn(int seed) {
        DustLayers x = new DustLayers();
        x.seed(seed * 104729);
        x.deal(4);
        x.rule(0, 90);
        x.rule(1, 60);
        x.days(seed % 20 + 1);
        return x;
    }

    private static void keptOfSeveral() {
        DustLayers x = still(TOP, ARCHIVE);
        x.rule(0, 77);
        due.is("no broom takes anything: the least", x.kept(60, 0), 0);
        due.is("BROOM stays", x.count(2), 77);
        DustLayers y = still(SHELF);
        due.is("one DAY, no broom", y.kept(1, 0), 0);
        due.is("one LAYER", y.kept(1, 1), 1);
        due.is("sixty DAYS", y.kept(60, 1), 12);
    }

    /** 0, 10, .., 100 and no other BROOM: held against what comes of it when it is lived. */
    private static void keptByAnyBroom() {
        int seen = 0;
        for (int seed = 0; seed < 600; seed++) {
            int n = 1 + seed % 60;
            int best = -1;
            int most = -1;
            for (int broom = 0; broom <= 100; broom += 10) {
                DustLayers lived = unlike(seed);
                lived.rule(0, broom);
                lived.days(n);
                if (lived.hall(3) > most) {
                    most = lived.hall(3);
                    best = broom;
                }
            }
            due.is("the BROOM, seed " + seed, unlike(seed).kept(n, 0), best);
            due.is("LAYERS, seed " + seed, unlike(seed).kept(n, 1), most);
            seen |= 1 << best / 10;
        }
        due.is("brooms that are best somewhere", seen, 0b11111111111);
    }

    /** Nothing is taken by brooms, so that they only shift the draws. */
    private static DustLayers unlike(int seed) {
        DustLayers x = new DustLayers();
        x.seed(seed * 15485863);
        x.surface(LINTEL, 5);
        x.surface(TABLE, 5);
        x.surface(ARCHIVE, 5);
        Due.text(x, "lift 0");
        return x;
    }

    private static void whoseByNoNumbers() {
        DustLayers x = still(SHELF, TOP);
        Due.settle(x, 1, 1, 2);
        Due.row(x, 0, 1, NONE, NONE, NONE);
        due.is("no numbers: the least", x.whose(0, 0), 0);
        due.is("no differences", x.whose(0, 1), 0);
        Due.row(x, 0, 1, NONE, NONE, 4);
        due.is("k counts the places, not the numbers", x.whose(0, 0), 1);
        due.is("2 and 2 DAYS", x.whose(0, 1), 0);
    }

    private static void whoseOfSeveral() {
        DustLayers x = still(SHELF, TOP, SHELF);
        Due.settle(x, 0, 1);
        Due.settle(x, 1, 1, 2, 3);
        Due.settle(x, 2, 1, 2, 3);
        Due.row(x, 0, 0, 2);
        due.is("one less, one more: signs left out, the least", x.whose(0, 0), 0);
        due.is("1", x.whose(0, 1), 1);
        Due.row(x, 0, 0, 3);
        due.is("of two the least", x.whose(0, 0), 1);
        due.is("0", x.whose(0, 1), 0);
        Due.row(x, 0, 0, -32768);
        due.is("the fewest", x.whose(0, 0), 0);
        due.is("32769", x.whose(0, 1), 32769);
        Due.row(x, 0, 1, 99999);
        due.is("the most", x.whose(0, 0), 1);
        due.is("99996", x.whose(0, 1), 99996);
    }

    private static void whoseByTwentyFourPlaces() {
        DustLayers x = still(SHELF);
        x.sheet(0, 1, 24);
        int together = 0;
        for (int k = 0; k < 24; k++) {
            x.mark(0, k, -99999);
            together += 99999 + Math.min(12, k);
        }
        due.is("24 places", x.whose(0, 1), together);
        for (int k = 0; k < 24; k++) {
            x.mark(0, k, Math.min(12, k));
        }
        due.is("day by day", x.whose(0, 1), 0);
        x.mark(0, 23, 0);
        due.is("the last place counts", x.whose(0, 1), 12);
        x.mark(0, 23, 12);
        x.mark(0, 0, 1);
        due.is("the first place is now", x.whose(0, 1), 1);
    }

    private static void feeAndFineWithoutTexts() {
        DustLayers x = still(SHELF, TOP);
        due.is("28: nothing SWEPT", x.fee(), 0);
        due.is("29: bare", x.fine(1), 0);
        for (int k = 0; k < 13; k++) {
            x.settles(0, 1);
        }
        due.is("29: full", x.fine(0), 12);
        x.sweeps(0);
        due.is("28: SWEPT", x.fee(), 2);
        due.is("29: LAYERS", x.fine(0), 10);
        due.is("29: no such SURFACE", x.fine(2), BAD);
        Due.text(x, "fine 7");
        due.is("29: no such SURFACE, with a TEXT", x.fine(2), BAD);
        due.is("29: no such SURFACE, with a TEXT", x.fine(-1), BAD);
        due.is("28: a TEXT of fine is none of fee", x.fee(), 2);
    }
}
