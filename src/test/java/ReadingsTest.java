/** Promises 16 to 29: what is read, what will be. */
public final class ReadingsTest {
    private static final int BAD = -1000000001, NONE = -1000000005, NOTHING = -1000000011, SIZE = -1000000014;
    private static final Due due = new Due();

    public static void main(String[] args) {
        liesAndProof();
        rowsRefused();
        common();
        hiding();
        alikeAndForged();
        behind();
        goneAndSafe();
        goneIsLived();
        becomesAndKept();
        whose();
        feeAndFine();
        due.end("ReadingsTest");
    }

    private static DustLayers still(int... kinds) {
        DustLayers x = new DustLayers();
        for (int kind : kinds) {
            x.surface(kind, 0);
        }
        x.rule(0, 0);
        x.rule(1, 0);
        return x;
    }

    private static void liesAndProof() {
        DustLayers x = still(0, 0, 0);
        Due.settle(x, 0, 1, 2, 3, 1);
        Due.settle(x, 1, 3, 2, 1);
        Due.row(x, 0, 0, 1, 3, 1);
        due.is("lies", x.lies(0), 1);
        due.is("proof", x.proof(0, 0), NONE);
        due.is("proof", x.proof(0, 1), 1);
        due.is("proof", x.proof(0, 2), 0);
        Due.row(x, 1, 1, 2, 1);
        due.is("lies", x.lies(1), 3);
        Due.row(x, 2, 1, 1, 1, 1);
        due.is("lies", x.lies(2), 0);
        due.is("proof", x.proof(2, 0), 2);
        x.sheet(3, 1, 0);
        due.is("a row of no places lies on all", x.lies(3), 7);
        due.is("proof", x.proof(3, 2), NONE);
        due.is("no surfaces", new DustLayers().lies(4), BAD);
    }

    private static void rowsRefused() {
        DustLayers x = still(0, 0);
        Due.row(x, 0, 0, 1, 10);
        Due.row(x, 1, 1, -1);
        Due.row(x, 2, 1, 9, NONE);
        for (int sheet = 0; sheet < 3; sheet++) {
            due.is("lies", x.lies(sheet), SIZE);
            due.is("proof", x.proof(sheet, 0), SIZE);
            due.is("hiding", x.hiding(sheet, 0), SIZE);
            due.is("gone", x.gone(sheet, 0), SIZE);
            due.is("safe", x.safe(sheet, 0), SIZE);
        }
        due.is("lies", x.lies(3), NOTHING);
        due.is("proof", x.proof(3, 0), NOTHING);
        due.is("hiding", x.hiding(3, 0), NOTHING);
        due.is("gone", x.gone(3, 0), NOTHING);
        due.is("safe", x.safe(3, 0), NOTHING);
        due.is("whose", x.whose(3, 0), NOTHING);
        for (int sheet = -1; sheet < 5; sheet += 5) {
            due.is("lies", x.lies(sheet), BAD);
            due.is("proof", x.proof(sheet, 0), BAD);
            due.is("hiding", x.hiding(sheet, 0), BAD);
            due.is("gone", x.gone(sheet, 0), BAD);
            due.is("safe", x.safe(sheet, 0), BAD);
            due.is("whose", x.whose(sheet, 0), BAD);
        }
        due.is("bad stands first", x.proof(3, 2), BAD);
        due.is("bad stands first", x.hiding(3, -1), BAD);
        due.is("bad stands first", x.gone(0, 2), BAD);
        due.is("bad stands first", x.safe(3, 2), BAD);
        due.is("bad stands first", x.whose(3, -1), BAD);
    }

    private static void common() {
        DustLayers x = still(0, 0, 0);
        Due.settle(x, 0, 5, 1, 5, 2, 9);
        Due.settle(x, 1, 1, 5, 9, 2, 5);
        due.is("length", x.common(0, 1, -1), 3);
        due.is("of 152, 159 the first", x.common(0, 1, 0), 1);
        due.is("of 152, 159 the first", x.common(0, 1, 1), 5);
        due.is("of 152, 159 the first", x.common(0, 1, 2), 2);
        due.is("the same from the other side", x.common(1, 0, 2), 2);
        due.is("no such place", x.common(0, 1, 3), NONE);
        due.is("no such place", x.common(0, 1, 11), NONE);
        due.is("nothing in common", x.common(0, 2, -1), 0);
        due.is("nothing in common", x.common(0, 2, 0), NONE);
        due.is("what", x.common(0, 1, 12), BAD);
        due.is("what", x.common(0, 1, -2), BAD);
        due.is("one and the same", x.common(1, 1, -1), BAD);
        due.is("one", x.common(3, 0, -1), BAD);
        due.is("other", x.common(0, -1, -1), BAD);
    }

    private static void hiding() {
        DustLayers x = still(0);
        Due.settle(x, 0, 1, 1, 2, 1, 2, 2);
        Due.row(x, 0, 0, 1, 2);
        due.is("1 1 2 1 2 2: the three ones, or the twos", x.hiding(0, 0), 3);
        Due.row(x, 0, 0, 2, 1);
        due.is("one", x.hiding(0, 0), 1);
        Due.row(x, 0, 0, 2, 2, 2);
        due.is("one of three", x.hiding(0, 0), 1);
        Due.row(x, 0, 0, 1);
        due.is("all ones", x.hiding(0, 0), 3);
        Due.row(x, 0, 0, 2, 1, 1);
        due.is("does not lie", x.hiding(0, 0), 0);
        x.sheet(1, 0, 0);
        due.is("no places", x.hiding(1, 0), NONE);
        x.sheet(1, 0, 24);
        due.is("a long one", x.hiding(1, 0), 0);
    }

    private static void alikeAndForged() {
        DustLayers x = new DustLayers();
        due.is("no two", x.alike(0), NONE);
        due.is("no two", x.forged(1), NONE);
        due.is("bad ahead of none", x.alike(2), BAD);
        due.is("bad ahead of none", x.forged(-1), BAD);
        x.surface(0, 0);
        due.is("no two", x.alike(1), NONE);
        due.is("no two", x.forged(0), NONE);
        for (int k = 0; k < 3; k++) {
            x.surface(0, 0);
        }
        due.is("of several the first", x.alike(0), 1);
        due.is("how many", x.alike(1), 0);
        due.is("of several the least", x.forged(0), 0);
        Due.settle(x, 0, 1, 2);
        Due.settle(x, 1, 7, 2, 1, 8);
        Due.settle(x, 2, 2, 1, 9);
        Due.settle(x, 3, 9, 1);
        due.is("alike", x.alike(0), 12);
        due.is("alike", x.alike(1), 2);
        due.is("forged: 3, 4, 4, 3", x.forged(0), 0);
        due.is("forged: 3, 4, 4, 3", x.forged(1), 3);
        x.lifts(3, 1);
        due.is("forged: 2, 3, 4, 1", x.forged(0), 3);
        due.is("forged: 2, 3, 4, 1", x.forged(1), 1);
    }

    private static void behind() {
        DustLayers x = new DustLayers();
        x.seed(9);
        x.deal(4);
        x.days(40);
        int z = x.count(7);
        int[] before = {x.hall(0), x.hall(1), x.hall(2), x.hall(3)};
        int[] thought = new int[7];
        for (int what = 0; what < 7; what++) {
            thought[what] = x.behind(25, what);
        }
        due.is("behind 0 days", x.behind(0, 0), before[0]);
        due.is("behind 0 days", x.behind(0, 3), x.told(0, 2));
        for (int what = 0; what < 4; what++) {
            due.is("only thought", x.hall(what), before[what]);
        }
        due.is("only thought", x.count(7), z);
        due.is("only thought", x.count(1), 40);
        due.is("n", x.behind(-1, 0), BAD);
        due.is("n", x.behind(101, 0), BAD);
        due.is("what", x.behind(1, 7), BAD);
        due.is("what", x.behind(1, -1), BAD);
        x.days(25);
        due.is("swept", x.hall(0), thought[0]);
        due.is("blown", x.hall(1), thought[1]);
        due.is("pressed", x.hall(2), thought[2]);
        for (int k = 0; k < 4; k++) {
            due.is("layers", x.told(k, 2), thought[3 + k]);
        }
        DustLayers old = new DustLayers();
        old.surface(0, 0);
        old.rule(0, 0);
        for (int k = 0; k < 100; k++) {
            old.days(100);
        }
        due.is("the last day", old.count(1), 9999);
        due.is("thought goes beyond the last day", old.behind(100, 2), old.hall(2) + 100);
    }

    private static void goneAndSafe() {
        DustLayers x = still(5, 4, 4);
        Due.settle(x, 0, 1, 2);
        Due.settle(x, 1, 1, 2);
        Due.row(x, 0, 0, 1, 2);
        due.is("a dry cloth keeps it", x.gone(0, 1), NONE);
        due.is("it does not lie", x.gone(0, 2), 0);
        due.is("on a cloth it's safe", x.safe(0, 0), 1);
        due.is("for good", x.safe(0, 1), 201);
        due.is("only thought", x.told(2, 2), 0);
        int day = x.gone(0, 0);
        for (int k = 0; k < day; k++) {
            due.is("lies on day " + k, x.lies(0) & 1, 1);
            x.days(1);
        }
        due.is("is gone then", x.lies(0) & 1, 0);
        x.sheet(1, 0, 13);
        due.is("thirteen places", x.safe(1, 0), SIZE);
        x.sheet(1, 0, 12);
        due.is("twelve places", x.safe(1, 1), 201);
        x.sheet(1, 0, 0);
        due.is("no places", x.gone(1, 0), NONE);
        due.is("no places", x.safe(1, 0), 0);
        DustLayers empty = new DustLayers();
        empty.sheet(0, 0, 0);
        due.is("no surfaces", empty.safe(0, 0), NONE);
        empty.sheet(0, 0, 13);
        due.is("no surfaces, too many places", empty.safe(0, 0), SIZE);
    }

    /** A row on a dry cloth that is seldom swept, up to the two hundredth day and beyond. */
    private static void goneIsLived() {
        int onTheLastDay = 0;
        int notByThen = 0;
        for (int seed = 0; seed < 3000; seed++) {
            DustLayers x = still(4);
            x.seed(seed * 7919);
            x.rule(0, 1);
            x.settles(0, 1);
            Due.row(x, 0, 0, 1);
            int thought = x.gone(0, 0);
            int safe = x.safe(0, 1);
            int day = 0;
            while (day <= 200 && x.lies(0) == 1) {
                x.days(1);
                day++;
            }
            due.is("gone, seed " + seed, thought, day > 200 ? NONE : day);
            due.is("safe, seed " + seed, safe, day);
            onTheLastDay += day == 200 ? 1 : 0;
            notByThen += day == 201 ? 1 : 0;
        }
        due.is("some are gone on the last day", onTheLastDay > 0 ? 1 : 0, 1);
        due.is("some are not by then", notByThen > 0 ? 1 : 0, 1);
    }

    private static void becomesAndKept() {
        DustLayers x = still(1, 4);
        due.is("a shelf has all", x.becomes(0, 7, 0), 0);
        due.is("seven", x.becomes(0, 7, 1), 7);
        due.is("only thought", x.told(0, 0), 1);
        due.is("of several the least", x.becomes(1, 60, 0), 0);
        due.is("twelve", x.becomes(1, 60, 1), 12);
        becomesIsLived();
        due.is("n", x.becomes(0, 0, 0), BAD);
        due.is("n", x.becomes(0, 61, 0), BAD);
        due.is("what", x.becomes(0, 1, 2), BAD);
        due.is("what", x.becomes(0, 1, -1), BAD);
        due.is("surface", x.becomes(2, 1, 0), BAD);
        DustLayers y = still(0);
        due.is("no broom keeps most", y.kept(10, 0), 0);
        due.is("ten", y.kept(10, 1), 10);
        due.is("only thought", y.rule(0, 100), 0);
        due.is("n", y.kept(0, 0), BAD);
        due.is("n", y.kept(61, 0), BAD);
        due.is("what", y.kept(1, 2), BAD);
        due.is("what", y.kept(1, -1), BAD);
        due.is("no surfaces", new DustLayers().kept(5, 0), 0);
        due.is("no surfaces", new DustLayers().kept(5, 1), 0);
    }

    /** What is thought of a surface's kinds is what comes of them. */
    private static void becomesIsLived() {
        for (int seed = 0; seed < 20; seed++) {
            int best = 0;
            int most = -1;
            for (int kind = 0; kind < 6; kind++) {
                DustLayers lived = sweptHall(seed);
                lived.turns(1, kind);
                lived.days(17);
                if (lived.told(1, 2) > most) {
                    most = lived.told(1, 2);
                    best = kind;
                }
            }
            due.is("becomes, seed " + seed, sweptHall(seed).becomes(1, 17, 0), best);
            due.is("becomes, seed " + seed, sweptHall(seed).becomes(1, 17, 1), most);
        }
    }

    private static DustLayers sweptHall(int seed) {
        DustLayers x = new DustLayers();
        x.seed(seed);
        x.deal(3);
        x.rule(0, 80);
        x.rule(1, 40);
        return x;
    }

    private static void whose() {
        DustLayers x = still(0, 4, 5);
        Due.settle(x, 1, 1, 2, 3, 4);
        Due.row(x, 0, 0, 4, 3, 4);
        due.is("0 1 2; 4 4 4; 0 1 2", x.whose(0, 0), 1);
        due.is("1", x.whose(0, 1), 1);
        Due.row(x, 1, 1, 2, NONE, -1);
        due.is("0 . 2; 4 . 4", x.whose(1, 0), 0);
        due.is("2 and 3", x.whose(1, 1), 5);
        x.sheet(2, 1, 0);
        due.is("no places", x.whose(2, 0), 0);
        due.is("no places", x.whose(2, 1), 0);
        DustLayers empty = new DustLayers();
        empty.sheet(0, 0, 1);
        due.is("no surfaces", empty.whose(0, 0), NONE);
    }

    private static void feeAndFine() {
        DustLayers x = still(0, 5);
        for (int k = 0; k < 15; k++) {
            x.settles(1, 1);
        }
        Due.settle(x, 0, 1, 2, 3);
        x.sweeps(0);
        due.is("swept", x.fee(), 2);
        due.is("layers", x.fine(0), 1);
        due.is("layers", x.fine(1), 12);
        due.is("surface", x.fine(2), BAD);
        due.is("surface", x.fine(-1), BAD);
        due.is("text", Due.text(x, "fee 100*s+b"), 0);
        due.is("text", Due.text(x, "fine n*10-p"), 1);
        due.is("fee", x.fee(), 200);
        due.is("fine", x.fine(0), 10);
        due.is("fine", x.fine(1), 117);
    }
}
