/** Terms 1 and 2, promises 1 to 15: each boundary that the document names, at it and on both sides of it. */
public final class HallEdgesTest {
    private static final int BAD = -1000000001, FULL = -1000000003, NONE = -1000000005, KIND = -1000000012;
    private static final int SHELF = 0, LINTEL = 1, TABLE = 2, ARCHIVE = 3, CLOTH = 4, TOP = 5;
    private static final Due due = new Due();

    public static void main(String[] args) {
        atFirst();
        eightSurfaces();
        twelveLayers();
        pressedOnAndOn();
        refusedWhenFull();
        catchesByDeed();
        catchesByDay();
        catchesByDamp();
        liftsHeldWithin();
        liftsLessOne();
        worthOfBareAndFull();
        kindsUnderOneAnother();
        sweptOfMoreThanThereIs();
        liftedOut();
        turnsKeepsAllElse();
        dampBroomAndDraught();
        settlesWhateverItCatches();
        noneIsThere();
        roomForAFew();
        drawsWrap();
        drawnSurfaces();
        dayOfNoSurfaces();
        dayOfOneSurface();
        dayOfTwoSurfaces();
        belowBroom();
        belowDraught();
        whichIsSwept();
        nextBehindTheLast();
        blownOntoAFullOne();
        blownFromABareOne();
        orderOfADay();
        settlesAheadOfTheDay();
        hundredDaysAtOnce();
        lastDay();
        fewerDaysThanAsked();
        setsOfSurfaces();
        fiveHundredAndTwelveCalls();
        due.end("HallEdgesTest");
    }

    private static DustLayers of(int damp, int... kinds) {
        DustLayers x = new DustLayers();
        for (int kind : kinds) {
            x.surface(kind, damp);
        }
        x.rule(0, 0);
        x.rule(1, 0);
        return x;
    }

    /** Told without int's wrapping: numbers below 2 to the 32nd, in a long. */
    private static long next(long z) {
        return (z * 1103515245L + 12345L) % 4294967296L;
    }

    private static int draw(int seed, int which) {
        long z = seed & 0xffffffffL;
        for (int k = 0; k < which; k++) {
            z = next(z);
        }
        return (int) (z / 256);
    }

    private static int behindDraws(int seed, int many) {
        long z = seed & 0xffffffffL;
        for (int k = 0; k < many; k++) {
            z = next(z);
        }
        return (int) z;
    }

    /** A z of which the draws have these rests, three by three: which draw, by what, the rest. */
    private static int seedOf(int... wanted) {
        for (int seed = 1; seed < 50_000_000; seed++) {
            boolean right = true;
            for (int k = 0; k < wanted.length && right; k += 3) {
                right = draw(seed, wanted[k]) % wanted[k + 1] == wanted[k + 2];
            }
            if (right) {
                return seed;
            }
        }
        throw new IllegalStateException("no such seed");
    }

    private static void layers(String what, DustLayers x, int surface, int... deeds) {
        for (int k = 0; k < 12; k++) {
            due.is(what + ", layer " + k, x.layer(surface, k), k < deeds.length ? deeds[k] : NONE);
        }
        due.is(what + ", how many", x.told(surface, 2), deeds.length);
    }

    // ---- Terms 1

    private static void atFirst() {
        DustLayers x = new DustLayers();
        due.is("no SURFACES", x.count(0), 0);
        due.is("THE DAY is 0 at first", x.count(1), 0);
        due.is("BROOM 20 at first", x.count(2), 20);
        due.is("DRAUGHT 10 at first", x.count(3), 10);
        due.is("no TEXTS", x.count(4), 0);
        due.is("no numbers wait", x.count(5), 0);
        due.is("no bytes", x.count(6), 0);
        due.is("z 1 at first", x.count(7), 1);
        due.is("SWEPT 0 at first", x.hall(0), 0);
        due.is("BLOWN 0 at first", x.hall(1), 0);
        due.is("fee: SWEPT", x.fee(), 0);
        for (int sheet = 0; sheet < 4; sheet++) {
            due.is("MISSING at first", x.reads(sheet), -1000000011);
        }
        for (int slot = 0; slot < 5; slot++) {
            due.is("nothing at first", x.lay(slot, 0, 0), 0);
        }
        due.is("no IMAGE", x.back(), -1000000002);
        for (int kind = 0; kind < 6; kind++) {
            x.surface(kind, 9);
            layers("none at first", x, kind);
            due.is("PRESSED 0 at first", x.told(kind, 3), 0);
        }
    }

    private static void eightSurfaces() {
        DustLayers x = new DustLayers();
        for (int k = 0; k < 8; k++) {
            due.is("the number of the " + k + "th", x.surface(k % 6, 9 - k), k);
            due.is("how many", x.count(0), k + 1);
        }
        due.is("the ninth", x.surface(0, 0), FULL);
        due.is("a ninth of no kind: BAD stands first", x.surface(6, 0), BAD);
        due.is("a ninth of no damp: BAD stands first", x.surface(0, -1), BAD);
        due.is("how many", x.count(0), 8);
        for (int k = 0; k < 8; k++) {
            due.is("KIND", x.told(k, 0), k % 6);
            due.is("DAMP", x.told(k, 1), 9 - k);
        }
    }

    private static void twelveLayers() {
        DustLayers x = of(0, SHELF);
        for (int k = 0; k < 11; k++) {
            x.settles(0, k % 10);
        }
        layers("eleven", x, 0, 0, 1, 2, 3, 4, 5, 6, 7, 8, 9, 0);
        due.is("the twelfth", x.settles(0, 7), 12);
        layers("twelve", x, 0, 0, 1, 2, 3, 4, 5, 6, 7, 8, 9, 0, 7);
        due.is("none PRESSED by twelve", x.told(0, 3), 0);
        due.is("the thirteenth", x.settles(0, 5), 12);
        layers("the oldest is gone", x, 0, 1, 2, 3, 4, 5, 6, 7, 8, 9, 0, 7, 5);
        due.is("PRESSED 1 more", x.told(0, 3), 1);
        due.is("pressing is no sweeping", x.hall(0), 0);
    }

    private static void pressedOnAndOn() {
        DustLayers x = of(0, SHELF, SHELF);
        for (int k = 0; k < 40; k++) {
            x.settles(1, k % 10);
        }
        due.is("28 are PRESSED", x.told(1, 3), 28);
        due.is("no other is", x.told(0, 3), 0);
        due.is("of all", x.hall(2), 28);
        layers("the last twelve", x, 1, 8, 9, 0, 1, 2, 3, 4, 5, 6, 7, 8, 9);
    }

    private static void refusedWhenFull() {
        Refused r = new Refused(due, "brimful", Refused::brimful);
        r.by("2: the ninth SURFACE", FULL, x -> x.surface(0, 0));
        r.by("2: the ninth, of no kind", BAD, x -> x.surface(-1, 0));
        r.by("12: no room", 0, x -> x.deal(1));
        r.by("12: no room for eight", 0, x -> x.deal(8));
        Refused lived = new Refused(due, "lived", Refused::lived);
        lived.by("5: a SHELF as a LINTEL", KIND, x -> x.as(0, 1));
        lived.by("11: nothing so high", NONE, x -> x.lifts(2, 11));
        lived.by("4: nothing so high", NONE, x -> x.layer(2, 11));
    }

    private static void catchesByDeed() {
        DustLayers x = of(9, SHELF, LINTEL, ARCHIVE, TOP);
        for (int deed = 0; deed < 10; deed++) {
            due.is("SHELF " + deed, x.told(0, 4) >> deed & 1, 1);
            due.is("LINTEL: if d is 3 or more: " + deed, x.told(1, 4) >> deed & 1, deed >= 3 ? 1 : 0);
            due.is("ARCHIVE: and 0, too: " + deed, x.told(2, 4) >> deed & 1, deed >= 3 || deed == 0 ? 1 : 0);
            due.is("TOP: as SHELF: " + deed, x.told(3, 4) >> deed & 1, 1);
        }
        for (int k = 0; k < 4; k++) {
            due.is("no eleventh DEED", x.told(k, 4) >> 10, 0);
        }
        for (int deed = 0; deed < 10; deed++) {
            DustLayers y = of(9, SHELF, LINTEL, ARCHIVE, TOP);
            y.seed(seedOf(1, 10, deed));
            y.days(1);
            layers("a SHELF's day", y, 0, deed);
            due.is("a LINTEL's day", y.told(1, 2), deed >= 3 ? 1 : 0);
            due.is("an ARCHIVE's day", y.told(2, 2), deed >= 3 || deed == 0 ? 1 : 0);
            layers("a TOP's day", y, 3, deed);
        }
    }

    private static void catchesByDay() {
        DustLayers x = of(3, TABLE, CLOTH);
        for (int day = 0; day < 7; day++) {
            for (int deed = 0; deed < 10; deed++) {
                int caught = (day + deed) % 3 == 0 ? 0 : 1;
                due.is("TABLE, day " + day + ", deed " + deed, x.told(0, 4) >> deed & 1, caught);
                due.is("CLOTH, day " + day + ", deed " + deed, x.told(1, 4) >> deed & 1, caught);
            }
            x.days(1);
        }
        DustLayers last = Refused.lastDay();
        last.turns(0, TABLE);
        due.is("TABLE, day 9999", last.told(0, 4), 0b0110110110);
    }

    private static void catchesByDamp() {
        DustLayers x = of(0, CLOTH, TABLE, LINTEL);
        for (int damp = 0; damp < 10; damp++) {
            for (int k = 0; k < 3; k++) {
                x.damp(k, damp);
            }
            due.is("CLOTH, DAMP " + damp, x.told(0, 4), damp >= 3 ? 0b0110110110 : 0);
            due.is("TABLE, DAMP " + damp, x.told(1, 4), 0b0110110110);
            due.is("LINTEL, DAMP " + damp, x.told(2, 4), 0b1111111000);
        }
    }

    private static void lifts(DustLayers x, String law, int... lifts) {
        Due.text(x, law);
        for (int kind = 0; kind < 6; kind++) {
            due.is(law + ": LIFTS of KIND " + kind, x.told(kind, 5), lifts[kind]);
        }
    }

    private static void liftsHeldWithin() {
        DustLayers x = of(0, 0, 1, 2, 3, 4, 5);
        int[] without = {2, 1, 4, 0, 5, 0};
        for (int kind = 0; kind < 6; kind++) {
            due.is("without a TEXT: LIFTS of KIND " + kind, x.told(kind, 5), without[kind]);
        }
        lifts(x, "lift 0-1", 0, 0, 0, 0, 1, 0);
        lifts(x, "lift 0", 0, 0, 0, 0, 1, 0);
        lifts(x, "lift 11", 11, 10, 22, 0, 23, 0);
        lifts(x, "lift 12", 12, 11, 24, 0, 25, 0);
        lifts(x, "lift 13", 12, 11, 24, 0, 25, 0);
        lifts(x, "lift 9999", 12, 11, 24, 0, 25, 0);
        lifts(x, "lift 9999*9999*21", 12, 11, 24, 0, 25, 0);
        lifts(x, "lift 9999*9999*22", 0, 0, 0, 0, 1, 0);
    }

    private static void liftsLessOne() {
        DustLayers x = of(0, 0, 1, 2, 3, 4, 5);
        lifts(x, "lift 1", 1, 0, 2, 0, 3, 0);
        lifts(x, "lift 2", 2, 1, 4, 0, 5, 0);
    }

    private static void worthOfBareAndFull() {
        DustLayers x = of(0, 0, 1, 2, 3, 4, 5);
        int[] bare = {0, 4, 24, 8, 21, 7};
        int[] full = {12, 16, 12, 32, 9, 7};
        for (int kind = 0; kind < 6; kind++) {
            due.is("WORTH of a bare one of KIND " + kind, x.told(kind, 6), bare[kind]);
            for (int k = 0; k < 13; k++) {
                x.settles(kind, 1);
            }
            due.is("WORTH of a full one of KIND " + kind, x.told(kind, 6), full[kind]);
        }
    }

    private static void kindsUnderOneAnother() {
        String[] above = {"0", "01", "02", "013", "024", "05"};
        DustLayers x = of(6, 0, 1, 2, 3, 4, 5);
        for (int kind = 0; kind < 6; kind++) {
            for (int wanted = 0; wanted < 6; wanted++) {
                boolean is = above[kind].indexOf('0' + wanted) >= 0;
                due.is(kind + " as " + wanted, x.as(kind, wanted), is ? 6 : KIND);
            }
        }
        due.is("BAD stands ahead of KIND", x.as(6, 5), BAD);
        due.is("BAD stands ahead of KIND", x.as(0, 6), BAD);
    }

    // ---- Terms 2, and calls that do a part of it

    private static void sweptOfMoreThanThereIs() {
        for (int has = 0; has <= 7; has++) {
            DustLayers x = of(0, CLOTH);
            for (int k = 0; k < has; k++) {
                x.settles(0, k);
            }
            int gone = Math.min(5, has);
            due.is("a CLOTH of " + has + " is SWEPT of 5", x.sweeps(0), gone);
            due.is("SWEPT more by them", x.hall(0), gone);
            due.is("the older ones are left", x.told(0, 2), has - gone);
            due.is("the oldest", x.layer(0, 0), has > 5 ? 0 : NONE);
            due.is("once more", x.sweeps(0), Math.min(5, has - gone));
        }
        DustLayers full = of(0, TABLE, ARCHIVE, TOP);
        Due.text(full, "lift 12");
        for (int k = 0; k < 12; k++) {
            full.settles(0, 1);
            full.settles(1, 2);
            full.settles(2, 3);
        }
        due.is("24 of 12", full.sweeps(0), 12);
        due.is("none of 12", full.sweeps(1), 0);
        due.is("none of 12", full.sweeps(2), 0);
        due.is("SWEPT", full.hall(0), 12);
    }

    private static void liftedOut() {
        DustLayers x = of(0, SHELF, SHELF);
        Due.settle(x, 0, 0, 1, 2, 3, 4, 5, 6, 7, 8, 9, 0, 1);
        Due.settle(x, 1, 4);
        due.is("the newest of twelve", x.lifts(0, 11), 1);
        due.is("there is no twelfth then", x.lifts(0, 11), NONE);
        due.is("the oldest", x.lifts(0, 0), 0);
        due.is("one between", x.lifts(0, 4), 5);
        layers("those left", x, 0, 1, 2, 3, 4, 6, 7, 8, 9, 0);
        due.is("right above the newest", x.lifts(0, 9), NONE);
        due.is("the newest", x.lifts(0, 8), 0);
        due.is("the only one", x.lifts(1, 0), 4);
        due.is("of none", x.lifts(1, 0), NONE);
        due.is("BAD stands ahead of NONE", x.lifts(1, 12), BAD);
        due.is("it is neither SWEPT", x.hall(0), 0);
        due.is("nor PRESSED", x.hall(2), 0);
        due.is("room for one more is left", x.settles(1, 3), 1);
    }

    private static void turnsKeepsAllElse() {
        DustLayers x = of(7, SHELF);
        for (int k = 0; k < 14; k++) {
            x.settles(0, k % 10);
        }
        int was = 0;
        for (int kind : new int[] {5, 4, 3, 2, 1, 0, 0}) {
            due.is("what it was", x.turns(0, kind), was);
            due.is("KIND", x.told(0, 0), kind);
            due.is("DAMP stays", x.told(0, 1), 7);
            due.is("PRESSED stays", x.told(0, 3), 2);
            layers("LAYERS stay", x, 0, 2, 3, 4, 5, 6, 7, 8, 9, 0, 1, 2, 3);
            was = kind;
        }
    }

    private static void dampBroomAndDraught() {
        DustLayers x = of(0, CLOTH);
        for (int v = 1; v <= 9; v++) {
            due.is("what DAMP was", x.damp(0, v), v - 1);
            due.is("DAMP", x.told(0, 1), v);
        }
        due.is("from 9 to 0", x.damp(0, 0), 9);
        due.is("DAMP", x.told(0, 1), 0);
        DustLayers y = of(0);
        for (int v = 1; v <= 100; v++) {
            due.is("what BROOM was", y.rule(0, v), v - 1);
            due.is("DRAUGHT stays", y.count(3), 0);
        }
        for (int v = 1; v <= 100; v++) {
            due.is("what DRAUGHT was", y.rule(1, v), v - 1);
            due.is("BROOM stays", y.count(2), 100);
        }
        due.is("from 100 to 0", y.rule(1, 0), 100);
        due.is("from 100 to 100", y.rule(0, 100), 100);
    }

    private static void settlesWhateverItCatches() {
        DustLayers x = of(0, 0, 1, 2, 3, 4, 5);
        for (int kind = 0; kind < 6; kind++) {
            for (int deed = 0; deed < 10; deed++) {
                due.is("DEED " + deed + " on KIND " + kind, x.settles(kind, deed), deed + 1);
            }
            layers("all SETTLE on KIND " + kind, x, kind, 0, 1, 2, 3, 4, 5, 6, 7, 8, 9);
        }
    }

    private static void noneIsThere() {
        DustLayers x = of(0, SHELF);
        due.is("of no LAYERS the oldest", x.layer(0, 0), NONE);
        due.is("of no LAYERS the twelfth", x.layer(0, 11), NONE);
        due.is("no thirteenth place", x.layer(0, 12), BAD);
        x.settles(0, 6);
        due.is("the oldest", x.layer(0, 0), 6);
        due.is("right above it", x.layer(0, 1), NONE);
    }

    private static void roomForAFew() {
        for (int had = 0; had <= 8; had++) {
            for (int n = 1; n <= 8; n++) {
                DustLayers x = new DustLayers();
                for (int k = 0; k < had; k++) {
                    x.surface(0, 0);
                }
                int came = Math.min(n, 8 - had);
                due.is("deal " + n + " to " + had, x.deal(n), came);
                due.is("how many", x.count(0), had + came);
                due.is("no draws for others", x.count(7), behindDraws(1, 2 * came));
            }
        }
    }

    private static void drawsWrap() {
        int[] seeds = {0, 1, -1, Integer.MAX_VALUE, Integer.MIN_VALUE, 1 << 30, -12345, 255, 256};
        for (int seed : seeds) {
            DustLayers x = new DustLayers();
            due.is("z was 1", x.seed(seed), 1);
            due.is("z is " + seed, x.count(7), seed);
            x.days(1);
            due.is("three draws from " + seed, x.count(7), behindDraws(seed, 3));
            due.is("what it was", x.seed(1), behindDraws(seed, 3));
        }
    }

    private static void drawnSurfaces() {
        for (int seed : new int[] {0, 7, -7, Integer.MIN_VALUE, Integer.MAX_VALUE, -1}) {
            DustLayers x = new DustLayers();
            x.seed(seed);
            x.deal(8);
            for (int k = 0; k < 8; k++) {
                due.is("KIND: a rest by 6", x.told(k, 0), draw(seed, 2 * k + 1) % 6);
                due.is("DAMP: a rest by 10", x.told(k, 1), draw(seed, 2 * k + 2) % 10);
                due.is("no LAYERS", x.told(k, 2), 0);
            }
        }
    }

    private static void dayOfNoSurfaces() {
        DustLayers x = new DustLayers();
        x.rule(0, 100);
        x.rule(1, 100);
        due.is("nothing is SWEPT", x.days(1), 0);
        due.is("three draws", x.count(7), behindDraws(1, 3));
        due.is("THE DAY is 1 more", x.count(1), 1);
        due.is("nothing is BLOWN", x.hall(1), 0);
    }

    private static void dayOfOneSurface() {
        DustLayers x = new DustLayers();
        x.surface(TOP, 0);
        x.rule(0, 100);
        x.rule(1, 100);
        x.days(1);
        due.is("four draws: none for the draught", x.count(7), behindDraws(1, 4));
        due.is("nothing is BLOWN", x.hall(1), 0);
        layers("the DEED stays", x, 0, draw(1, 1) % 10);
    }

    private static void dayOfTwoSurfaces() {
        DustLayers x = new DustLayers();
        x.surface(TOP, 0);
        x.surface(TOP, 0);
        x.rule(0, 100);
        x.rule(1, 100);
        x.days(1);
        due.is("five draws", x.count(7), behindDraws(1, 5));
        due.is("one is BLOWN", x.hall(1), 1);
        int from = draw(1, 5) % 2;
        due.is("gone from the one", x.told(from, 2), 0);
        due.is("come to the other", x.told(1 - from, 2), 2);
    }

    private static void belowBroom() {
        int[] rests = {0, 1, 50, 98, 99};
        for (int rest : rests) {
            int seed = seedOf(2, 100, rest);
            for (int broom : new int[] {0, rest, rest + 1, 100}) {
                DustLayers x = of(0, SHELF);
                Due.settle(x, 0, 1, 2, 3, 4, 5);
                x.rule(0, broom);
                x.seed(seed);
                boolean swept = rest < broom;
                due.is("rest " + rest + ", BROOM " + broom, x.days(1), swept ? 2 : 0);
                due.is("LAYERS", x.told(0, 2), swept ? 4 : 6);
                due.is("draws", x.count(7), behindDraws(seed, swept ? 4 : 3));
            }
        }
    }

    private static void belowDraught() {
        int[] rests = {0, 1, 50, 98, 99};
        for (int rest : rests) {
            int seed = seedOf(3, 100, rest);
            for (int draught : new int[] {0, rest, rest + 1, 100}) {
                DustLayers x = of(0, CLOTH, CLOTH);
                Due.settle(x, 0, 1, 2);
                Due.settle(x, 1, 3, 4);
                x.rule(1, draught);
                x.seed(seed);
                x.days(1);
                boolean blown = rest < draught;
                due.is("rest " + rest + ", DRAUGHT " + draught, x.hall(1), blown ? 1 : 0);
                due.is("draws", x.count(7), behindDraws(seed, blown ? 4 : 3));
            }
        }
    }

    private static void whichIsSwept() {
        for (int which = 0; which < 8; which++) {
            int seed = seedOf(3, 8, which);
            DustLayers x = of(0, 4, 4, 4, 4, 4, 4, 4, 4);
            for (int k = 0; k < 8; k++) {
                x.settles(k, k);
            }
            x.rule(0, 100);
            x.seed(seed);
            due.is("one LAYER is SWEPT", x.days(1), 1);
            due.is("of SURFACE " + which, x.hall(4), 1 << which);
        }
    }

    private static void nextBehindTheLast() {
        for (int many = 2; many <= 8; many++) {
            for (int one = 0; one < many; one++) {
                DustLayers x = new DustLayers();
                for (int k = 0; k < many; k++) {
                    x.surface(CLOTH, 0);
                    Due.settle(x, k, k, k + 1);
                }
                x.rule(0, 0);
                x.rule(1, 100);
                x.seed(seedOf(4, many, one));
                x.days(1);
                int next = one == many - 1 ? 0 : one + 1;
                layers("its newest is gone from " + one + " of " + many, x, one, one);
                layers("and lies on " + next, x, next, next, next + 1, one + 1);
                due.is("BLOWN 1 more", x.hall(1), 1);
                due.is("no others change", x.hall(3), 2 * many);
            }
        }
    }

    private static void blownOntoAFullOne() {
        DustLayers x = of(0, CLOTH, CLOTH);
        Due.settle(x, 0, 0, 1, 2, 3, 4, 5, 6, 7, 8, 9, 0, 1);
        Due.settle(x, 1, 7);
        x.rule(1, 100);
        x.seed(seedOf(4, 2, 1));
        x.days(1);
        layers("the oldest is gone", x, 0, 1, 2, 3, 4, 5, 6, 7, 8, 9, 0, 1, 7);
        due.is("PRESSED 1 more", x.told(0, 3), 1);
        layers("bare", x, 1);
        DustLayers y = of(0, CLOTH, CLOTH);
        Due.settle(y, 0, 0, 1, 2, 3, 4, 5, 6, 7, 8, 9, 0);
        Due.settle(y, 1, 7);
        y.rule(1, 100);
        y.seed(seedOf(4, 2, 1));
        y.days(1);
        layers("the twelfth", y, 0, 0, 1, 2, 3, 4, 5, 6, 7, 8, 9, 0, 7);
        due.is("none is PRESSED", y.told(0, 3), 0);
    }

    private static void blownFromABareOne() {
        DustLayers x = of(0, CLOTH, CLOTH);
        x.settles(1, 5);
        x.rule(1, 100);
        int seed = seedOf(4, 2, 0);
        x.seed(seed);
        x.days(1);
        due.is("nothing is BLOWN", x.hall(1), 0);
        layers("bare", x, 0);
        layers("as it was", x, 1, 5);
        due.is("the draw is made", x.count(7), behindDraws(seed, 4));
    }

    /** First the DEED settles, then a broom sweeps, then a draught blows. */
    private static void orderOfADay() {
        DustLayers x = of(0, SHELF);
        x.rule(0, 100);
        due.is("the day's own DEED is SWEPT", x.days(1), 1);
        layers("bare", x, 0);
        for (int swept = 0; swept < 2; swept++) {
            for (int one = 0; one < 2; one++) {
                int seed = seedOf(3, 2, swept, 5, 2, one);
                DustLayers y = of(0, SHELF, SHELF);
                y.rule(0, 100);
                y.rule(1, 100);
                y.seed(seed);
                due.is("one is SWEPT", y.days(1), 1);
                due.is("nothing is BLOWN from where it was SWEPT", y.hall(1), swept == one ? 0 : 1);
                int deed = draw(seed, 1) % 10;
                int lies = swept == one ? 1 - swept : swept;
                layers("the one DEED", y, lies, deed);
                layers("none", y, 1 - lies);
            }
        }
    }

    private static void settlesAheadOfTheDay() {
        for (int deed = 0; deed < 10; deed++) {
            DustLayers x = of(3, TABLE);
            x.seed(seedOf(1, 10, deed));
            x.days(1);
            due.is("day 0, deed " + deed, x.told(0, 2), deed % 3 == 0 ? 0 : 1);
        }
        DustLayers x = of(0, SHELF);
        Due.text(x, "lift t");
        Due.settle(x, 0, 1, 2, 3);
        x.rule(0, 100);
        due.is("on day 0 the broom takes none", x.days(1), 0);
        due.is("on day 1 one", x.days(1), 1);
        due.is("on day 2 two", x.days(1), 2);
    }

    private static void hundredDaysAtOnce() {
        DustLayers x = sweptHall();
        DustLayers y = sweptHall();
        int together = 0;
        for (int k = 0; k < 100; k++) {
            together += y.days(1);
        }
        due.is("by how much SWEPT is more", x.days(100), together);
        due.same("all is the same", Refused.seen(Refused.Side.HALL, x), Refused.seen(Refused.Side.HALL, y));
        int before = x.hall(0);
        int more = x.days(10);
        due.is("SWEPT", x.hall(0), before + more);
    }

    private static DustLayers sweptHall() {
        DustLayers x = new DustLayers();
        x.deal(4);
        x.rule(0, 70);
        x.rule(1, 30);
        return x;
    }

    private static void lastDay() {
        DustLayers x = Refused.onDay(9998);
        due.is("9998", x.count(1), 9998);
        x.rule(0, 100);
        due.is("the last one", x.days(1), 2);
        due.is("9999", x.count(1), 9999);
        for (int n : new int[] {1, 2, 100}) {
            int z = x.count(7);
            due.is("no more", x.days(n), 0);
            due.is("9999", x.count(1), 9999);
            due.is("no draws", x.count(7), z);
            due.is("no LAYERS", x.told(0, 2), 10);
        }
        Refused last = new Refused(due, "the last day", Refused::lastDay);
        last.range("14: days", 1, 100, (y, v) -> y.days(v));
        last.by("14: no more DAYS", 0, y -> y.days(1));
        last.by("14: no more DAYS", 0, y -> y.days(100));
    }

    private static void fewerDaysThanAsked() {
        for (int left = 0; left <= 101; left += left < 3 ? 1 : left == 3 ? 95 : 1) {
            DustLayers x = Refused.onDay(9999 - left);
            DustLayers y = Refused.onDay(9999 - left);
            x.days(100);
            for (int k = 0; k < Math.min(left, 100); k++) {
                y.days(1);
            }
            due.is("the day, with " + left + " left", x.count(1), Math.min(9999, 9999 - left + 100));
            due.is("draws, with " + left + " left", x.count(7), y.count(7));
        }
    }

    private static void setsOfSurfaces() {
        DustLayers x = of(0, 0, 0, 0, 0, 0, 0, 0, 0);
        due.is("all are bare", x.hall(4), 255);
        x.settles(7, 1);
        due.is("all but the last", x.hall(4), 127);
        x.settles(0, 1);
        due.is("all but the first and the last", x.hall(4), 126);
        due.is("LAYERS", x.hall(3), 2);
        due.is("of no SURFACES none is bare", new DustLayers().hall(4), 0);
    }

    /** An object is used for 512 calls: the last one still answers. */
    private static void fiveHundredAndTwelveCalls() {
        DustLayers x = new DustLayers();
        for (int call = 1; call <= 512; call++) {
            due.is("call " + call, x.seed(call), call == 1 ? 1 : call - 1);
        }
    }
}
