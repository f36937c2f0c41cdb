/** Promises 35 to 48: sheets, slots, rows told, images, counts. */
public final class SheetsTest {
    private static final int BAD = -1000000001, NO = -1000000002, FULL = -1000000003, NONE = -1000000005;
    private static final int NOTHING = -1000000011, KIND = -1000000012, INDEX = -1000000013, SIZE = -1000000014;
    private static final Due due = new Due();

    public static void main(String[] args) {
        sheet();
        mark();
        pour();
        reads();
        copy();
        laySurface();
        laySheetOrNumber();
        tellAndCheck();
        checkAtTheEnd();
        keepAndBack();
        imageOfTexts();
        count();
        due.end("SheetsTest");
    }

    private static void sheet() {
        DustLayers x = new DustLayers();
        due.is("sheet", x.sheet(-1, 0, 1), BAD);
        due.is("sheet", x.sheet(4, 0, 1), BAD);
        due.is("sort", x.sheet(0, 2, 1), BAD);
        due.is("sort", x.sheet(0, -2, 1), BAD);
        due.is("n", x.sheet(0, 0, 25), BAD);
        due.is("n", x.sheet(0, 1, -1), SIZE);
        due.is("bad stands first", x.sheet(0, 2, -1), BAD);
        due.is("still missing", x.reads(0), NOTHING);
        due.is("places", x.sheet(0, 1, 24), 24);
        x.mark(0, 23, 5);
        due.is("marked", x.reads(0), 0);
        due.is("again", x.sheet(0, 1, 3), 3);
        due.is("no such place", x.mark(0, 3, 1), INDEX);
        due.is("places", x.sheet(0, 0, 24), 24);
        x.lay(0, 2, 0);
        due.is("all 0 again", x.item(0, 23), 0);
        due.is("missing, n any", x.sheet(0, -1, 99), 0);
        due.is("missing, n any", x.sheet(0, -1, -99), 0);
        due.is("missing", x.mark(0, 0, 0), NOTHING);
    }

    private static void mark() {
        DustLayers x = new DustLayers();
        due.is("sheet", x.mark(4, 0, 0), BAD);
        due.is("missing", x.mark(0, 0, 0), NOTHING);
        x.sheet(0, 0, 2);
        x.sheet(1, 1, 2);
        due.is("place", x.mark(0, 2, 0), INDEX);
        due.is("place", x.mark(0, -1, NONE), INDEX);
        due.is("no number in shorts", x.mark(0, 0, NONE), KIND);
        due.is("lowest bits", x.mark(0, 0, 65536 * 7 + 40000), 1);
        due.is("lowest bits", x.mark(0, 1, Integer.MAX_VALUE), 1);
        x.lay(0, 2, 0);
        due.is("a short", x.item(0, 0), 40000 - 65536);
        due.is("a short", x.item(0, 1), -1);
        due.is("floats", x.mark(1, 0, 100000), BAD);
        due.is("floats", x.mark(1, 0, -100000), BAD);
        due.is("place ahead of v", x.mark(1, 2, 100000), INDEX);
        due.is("floats", x.mark(1, 0, 99999), 1);
        due.is("floats", x.mark(1, 1, -99999), 1);
        x.lay(0, 2, 1);
        due.is("a float", x.item(0, 0), 99999);
        due.is("a float", x.item(0, 1), -99999);
        due.is("no number", x.mark(1, 0, NONE), 1);
        x.lay(0, 2, 1);
        due.is("no number", x.item(0, 0), KIND);
    }

    private static void pour() {
        DustLayers x = new DustLayers();
        for (int k = 0; k < 5; k++) {
            x.surface(0, 3);
        }
        Due.row(x, 0, 1, 12, -4, NONE, 3);
        due.is("pour", x.pour(0), 2);
        int[] damp = {9, 0, 3, 3, 3};
        for (int k = 0; k < 5; k++) {
            due.is("damp of " + k, x.told(k, 1), damp[k]);
        }
        due.is("once more", x.pour(0), 0);
        x.sheet(1, 0, 24);
        due.is("more places than surfaces", x.pour(1), 4);
        due.is("sheet", x.pour(4), BAD);
        due.is("sheet", x.pour(-1), BAD);
        due.is("missing", x.pour(2), NOTHING);
    }

    private static void reads() {
        DustLayers x = new DustLayers();
        x.surface(0, 0);
        x.surface(0, 0);
        Due.settle(x, 0, 1, 2);
        Due.row(x, 0, 1, 2, 0);
        due.is("as it is", x.reads(0), NONE);
        Due.row(x, 0, 1, NONE, 1);
        due.is("the second", x.reads(0), 1);
        Due.row(x, 0, 1, 2, NONE, NONE, 0);
        due.is("no surface", x.reads(0), 3);
        Due.row(x, 0, 1, 2);
        due.is("fewer places", x.reads(0), NONE);
        Due.row(x, 0, 0, 3);
        due.is("the first", x.reads(0), 0);
        due.is("sheet", x.reads(4), BAD);
        due.is("missing", x.reads(1), NOTHING);
    }

    private static void copy() {
        DustLayers x = new DustLayers();
        Due.row(x, 0, 0, 1, 2, 3, 4);
        due.is("upwards over itself", x.copy(0, 0, 0, 1, 3), 3);
        x.lay(0, 2, 0);
        int[] up = {1, 1, 2, 3};
        for (int k = 0; k < 4; k++) {
            due.is("place " + k, x.item(0, k), up[k]);
        }
        Due.row(x, 0, 0, 1, 2, 3, 4);
        due.is("downwards over itself", x.copy(0, 1, 0, 0, 3), 3);
        x.lay(0, 2, 0);
        int[] down = {2, 3, 4, 4};
        for (int k = 0; k < 4; k++) {
            due.is("place " + k, x.item(0, k), down[k]);
        }
        x.sheet(1, 1, 4);
        x.sheet(2, 0, 2);
        due.is("to another", x.copy(0, 2, 2, 0, 2), 2);
        x.lay(0, 2, 2);
        due.is("came", x.item(0, 1), 4);
        due.is("none", x.copy(0, 4, 2, 2, 0), 0);
        due.is("sorts", x.copy(0, 0, 1, 0, 1), KIND);
        due.is("sorts ahead of places", x.copy(0, 9, 1, 9, 1), KIND);
        due.is("missing", x.copy(0, 0, 3, 0, 1), NOTHING);
        due.is("missing", x.copy(3, 0, 0, 0, 1), NOTHING);
        due.is("bad stands first", x.copy(3, 0, 4, 0, 1), BAD);
        due.is("bad stands first", x.copy(-1, 0, 3, 0, 1), BAD);
        due.is("from", x.copy(0, 3, 2, 0, 2), INDEX);
        due.is("from", x.copy(0, -1, 2, 0, 1), INDEX);
        due.is("to", x.copy(0, 0, 2, 1, 2), INDEX);
        due.is("to", x.copy(0, 0, 2, -1, 1), INDEX);
        due.is("many", x.copy(0, 0, 2, 0, -1), INDEX);
        due.is("many", x.copy(0, 1, 2, 1, Integer.MAX_VALUE), INDEX);
        due.is("place", x.copy(0, Integer.MAX_VALUE, 2, 0, 1), INDEX);
    }

    private static void laySurface() {
        DustLayers x = new DustLayers();
        for (int kind = 0; kind < 6; kind++) {
            x.surface(kind, 0);
        }
        Due.settle(x, 3, 1, 2);
        due.is("slot", x.lay(5, 0, 0), BAD);
        due.is("slot", x.lay(-1, 0, 0), BAD);
        due.is("thing", x.lay(0, 4, 0), BAD);
        due.is("thing", x.lay(0, -1, 0), BAD);
        due.is("surface", x.lay(0, 1, 6), BAD);
        due.is("surface", x.lay(0, 1, -1), BAD);
        due.is("held nothing", x.lay(0, 1, 3), 0);
        due.is("an archive", x.ask(0, 3), 12);
        due.is("as a lintel it is worth what it is", x.ask(0, 1), 12);
        due.is("as a shelf it is worth what it is", x.ask(0, 0), 12);
        due.is("no table", x.ask(0, 2), KIND);
        x.turns(3, 2);
        x.settles(3, 1);
        due.is("as it was then", x.ask(0, 3), 12);
        due.is("kind", x.ask(0, 6), BAD);
        due.is("kind", x.ask(0, -1), BAD);
        due.is("slot", x.ask(5, 0), BAD);
        due.is("nothing", x.ask(1, 0), NOTHING);
        due.is("no sheet", x.item(0, 0), KIND);
        due.is("no number", x.rest(0, 0), KIND);
        due.is("a lintel is no archive", x.lay(0, 1, 1), 1);
        due.is("a lintel is no archive", x.ask(0, 3), KIND);
        due.is("a lintel", x.ask(0, 1), 4);
    }

    private static void laySheetOrNumber() {
        DustLayers x = new DustLayers();
        Due.row(x, 0, 1, 5, NONE, -6);
        due.is("sheet", x.lay(2, 2, 4), BAD);
        due.is("sheet", x.lay(2, 2, -1), BAD);
        due.is("missing", x.lay(2, 2, 1), NOTHING);
        due.is("a sheet", x.lay(2, 2, 0), 0);
        x.mark(0, 0, 7);
        x.sheet(0, -1, 0);
        due.is("a row of its own", x.item(2, 0), 5);
        due.is("no number", x.item(2, 1), KIND);
        due.is("below 0", x.item(2, 2), -6);
        due.is("place", x.item(2, 3), INDEX);
        due.is("place", x.item(2, -1), INDEX);
        due.is("slot", x.item(5, 0), BAD);
        due.is("nothing", x.item(3, 0), NOTHING);
        due.is("no surface", x.ask(2, 0), KIND);
        due.is("it held a sheet", x.lay(2, 3, -17), 2);
        due.is("rest", x.rest(2, 5), -2);
        due.is("rest", x.rest(2, -5), -2);
        due.is("by 0", x.rest(2, 0), NO);
        due.is("slot", x.rest(-1, 0), BAD);
        due.is("nothing", x.rest(0, 0), NOTHING);
        due.is("no sheet", x.item(2, 0), KIND);
        due.is("it held a number", x.lay(2, 3, Integer.MIN_VALUE), 3);
        due.is("rest", x.rest(2, -1), 0);
        due.is("it held a number", x.lay(2, 0, 999), 3);
        due.is("nothing", x.rest(2, 1), NOTHING);
        due.is("it held nothing", x.lay(2, 0, 0), 0);
    }

    private static void tellAndCheck() {
        DustLayers x = new DustLayers();
        for (int k = 1; k <= 60; k++) {
            due.is("tell", x.tell(k), k);
        }
        due.is("tell", x.tell(1), FULL);
        due.is("no image", x.check(3), NO);
        due.is("none wait", x.count(5), 0);
        x.tell(1);
        due.is("bad stands first", x.check(31), BAD);
        due.is("none wait", x.count(5), 0);
        x.seed(11);
        x.deal(5);
        x.rule(0, 70);
        x.days(20);
        x.keep();
        int[] told = new int[60];
        for (int k = 0; k < 30; k++) {
            x.days(1);
            told[2 * k] = x.hall(0);
            told[2 * k + 1] = x.hall(3);
        }
        x.rule(0, 3);
        due.is("thirty days", checked(x, told, 60, 30), 0);
        due.is("two days", checked(x, told, 4, 2), 0);
        due.is("one is missing", checked(x, told, 3, 2), 4);
        due.is("all are missing", checked(x, told, 0, 2), 1);
        due.is("one too many", checked(x, told, 5, 2), 5);
        told[2]++;
        due.is("the third", checked(x, told, 6, 3), 3);
        told[2]--;
        told[59]--;
        due.is("the last", checked(x, told, 60, 30), 60);
        due.is("nothing changes", x.count(1), 50);
    }

    private static int checked(DustLayers x, int[] told, int many, int n) {
        for (int k = 0; k < many; k++) {
            x.tell(told[k]);
        }
        int answer = x.check(n);
        due.is("none wait", x.count(5), 0);
        return answer;
    }

    private static void checkAtTheEnd() {
        DustLayers x = new DustLayers();
        x.surface(0, 0);
        x.rule(0, 0);
        for (int k = 0; k < 100; k++) {
            x.days(k < 99 ? 100 : 98);
        }
        x.keep();
        due.is("the day", x.count(1), 9998);
        int[] told = {0, 12, 0, 12};
        due.is("one day is left", checked(x, told, 2, 30), 0);
        due.is("one day is left", checked(x, told, 4, 30), 3);
        x.days(1);
        x.keep();
        due.is("no day is left", checked(x, told, 0, 1), 0);
        due.is("no day is left", checked(x, told, 1, 1), 1);
    }

    private static void keepAndBack() {
        DustLayers x = new DustLayers();
        due.is("no image", x.back(), NO);
        due.is("an empty image", x.keep(), 0);
        x.deal(3);
        x.days(10);
        due.is("back to none", x.back(), 0);
        due.is("no surfaces", x.count(0), 0);
        due.is("z", x.count(7), 1);
        x.surface(2, 6);
        x.surface(1, 1);
        due.is("new surfaces are bare", x.told(0, 2), 0);
        due.is("new surfaces are not pressed", x.hall(2), 0);
        Due.settle(x, 0, 1, 2, 3);
        x.rule(0, 50);
        x.rule(1, 60);
        x.days(7);
        due.is("keep", x.keep(), 2);
        int[] counts = {2, 7, 50, 60, 0, 0, 0, x.count(7)};
        int[] hall = new int[5];
        for (int k = 0; k < 5; k++) {
            hall[k] = x.hall(k);
        }
        for (int again = 0; again < 2; again++) {
            x.days(30);
            x.deal(8);
            x.turns(0, 5);
            x.damp(0, 0);
            x.rule(0, 1);
            x.rule(1, 2);
            x.seed(5);
            due.is("back", x.back(), 2);
            for (int k = 0; k < 8; k++) {
                due.is("count " + k, x.count(k), counts[k]);
            }
            for (int k = 0; k < 5; k++) {
                due.is("hall " + k, x.hall(k), hall[k]);
            }
            due.is("kind", x.told(0, 0), 2);
            due.is("damp", x.told(0, 1), 6);
        }
        Due.row(x, 0, 0, 4, 5);
        x.lay(0, 3, 44);
        x.tell(9);
        x.feed(0, 0, 0);
        x.back();
        due.is("sheets stay", x.mark(0, 1, 1), 1);
        due.is("slots stay", x.rest(0, 10), 4);
        due.is("numbers that wait stay", x.count(5), 1);
        due.is("the tape stays", x.count(6), 12);
    }

    private static void imageOfTexts() {
        DustLayers x = new DustLayers();
        x.surface(0, 0);
        Due.text(x, "lift 1");
        Due.text(x, "fee 5");
        x.keep();
        Due.text(x, "lift 3");
        Due.text(x, "fine 6");
        due.is("counts", x.why(0), 2);
        x.back();
        due.is("texts", x.count(4), 2);
        due.is("counts", x.why(0), 0);
        due.is("counts", x.why(1), 1);
        due.is("none counts", x.why(2), NONE);
        due.is("lifts", x.told(0, 5), 1);
        due.is("no such text", x.textTold(2, 0), BAD);
        due.is("a text in its place", Due.text(x, "fine 8"), 2);
        due.is("fine", x.fine(0), 8);
        x.back();
        due.is("fine", x.fine(0), 0);
        Due.text(x, "lift 9");
        Due.settle(x, 0, 1, 1, 1, 1, 1, 1);
        x.rule(0, 100);
        x.keep();
        x.days(1);
        int swept = x.hall(0);
        int left = x.hall(3);
        Due.text(x, "lift 0");
        x.tell(swept);
        x.tell(left);
        due.is("the image's law", x.check(1), 0);
    }

    private static void count() {
        DustLayers x = new DustLayers();
        x.surface(0, 0);
        Due.text(x, "fee 1");
        x.tell(8);
        x.feed(1, 2, 3);
        x.rule(0, 33);
        x.rule(1, 44);
        x.seed(-3);
        int[] counts = {1, 0, 33, 44, 1, 1, 12, -3};
        for (int what = 0; what < 8; what++) {
            due.is("count " + what, x.count(what), counts[what]);
        }
        due.is("what", x.count(8), BAD);
        due.is("what", x.count(-1), BAD);
    }
}
