/** Promises 1 to 15: a new object, surfaces, days, the hall. */
public final class SurfacesTest {
    private static final int BAD = -1000000001, FULL = -1000000003, NONE = -1000000005, KIND = -1000000012;
    private static final Due due = new Due();

    public static void main(String[] args) {
        newObject();
        surface();
        toldByKind();
        layerAndLifts();
        as();
        turnsDampRule();
        settlesAndSweeps();
        dealAndSeed();
        days();
        draught();
        hall();
        due.end("SurfacesTest");
    }

    private static void newObject() {
        DustLayers x = new DustLayers();
        int[] counts = {0, 0, 20, 10, 0, 0, 0, 1};
        for (int what = 0; what < 8; what++) {
            due.is("new: count " + what, x.count(what), counts[what]);
        }
        for (int what = 0; what < 5; what++) {
            due.is("new: hall " + what, x.hall(what), 0);
        }
        for (int key = 0; key < 3; key++) {
            due.is("new: why " + key, x.why(key), NONE);
        }
        due.is("new: reads", x.reads(3), -1000000011);
        due.is("new: ask", x.ask(4, 0), -1000000011);
        due.is("new: back", x.back(), -1000000002);
        due.is("new: told", x.told(0, 0), BAD);
    }

    private static void surface() {
        DustLayers x = new DustLayers();
        int[][] wrong = {{-1, 0}, {6, 0}, {0, -1}, {0, 10}, {Integer.MIN_VALUE, 3}, {3, Integer.MAX_VALUE}};
        for (int[] w : wrong) {
            due.is("surface wrong", x.surface(w[0], w[1]), BAD);
        }
        for (int k = 0; k < 8; k++) {
            due.is("surface " + k, x.surface(k % 6, k + 2), k);
        }
        due.is("surface full", x.surface(0, 0), FULL);
        due.is("surface bad ahead of full", x.surface(0, 10), BAD);
        due.is("how many", x.count(0), 8);
        due.is("kind of 7", x.told(7, 0), 1);
        due.is("damp of 7", x.told(7, 1), 9);
        due.is("layers of 7", x.told(7, 2), 0);
        due.is("pressed of 7", x.told(7, 3), 0);
    }

    private static void toldByKind() {
        DustLayers x = new DustLayers();
        for (int kind = 0; kind < 6; kind++) {
            x.surface(kind, 3);
            Due.settle(x, kind, 1, 2, 3, 4, 5);
        }
        x.surface(4, 2);
        int[] lifts = {2, 1, 4, 0, 5, 0};
        int[] worth = {5, 9, 19, 18, 16, 7};
        int[][] caught = {
            {1023, 1016, 0b0110110110, 1017, 0b0110110110, 1023},
            {1023, 1016, 0b1011011011, 1017, 0b1011011011, 1023},
            {1023, 1016, 0b1101101101, 1017, 0b1101101101, 1023},
        };
        x.rule(0, 0);
        x.rule(1, 0);
        for (int kind = 0; kind < 6; kind++) {
            due.is("kind", x.told(kind, 0), kind);
            due.is("lifts of " + kind, x.told(kind, 5), lifts[kind]);
            due.is("worth of " + kind, x.told(kind, 6), worth[kind]);
        }
        for (int day = 0; day < 4; day++) {
            for (int kind = 0; kind < 6; kind++) {
                due.is("caught by " + kind + " on " + day, x.told(kind, 4), caught[day % 3][kind]);
            }
            due.is("a dry cloth catches none", x.told(6, 4), 0);
            x.days(1);
        }
        due.is("told of none", x.told(7, 0), BAD);
        due.is("told of less than none", x.told(-1, 0), BAD);
        due.is("told what", x.told(0, 7), BAD);
        due.is("told what", x.told(0, -1), BAD);
    }

    private static void layerAndLifts() {
        DustLayers x = new DustLayers();
        x.surface(0, 0);
        Due.settle(x, 0, 7, 8, 9);
        due.is("oldest", x.layer(0, 0), 7);
        due.is("newest", x.layer(0, 2), 9);
        due.is("none", x.layer(0, 3), NONE);
        due.is("k", x.layer(0, 11), NONE);
        due.is("k", x.layer(0, 12), BAD);
        due.is("k", x.layer(0, -1), BAD);
        due.is("surface", x.layer(1, 0), BAD);
        due.is("lifted", x.lifts(0, 1), 8);
        due.is("the others close up", x.layer(0, 1), 9);
        due.is("fewer", x.told(0, 2), 2);
        due.is("lifting is no sweeping", x.hall(0), 0);
        due.is("lift none", x.lifts(0, 2), NONE);
        due.is("lift k", x.lifts(0, 12), BAD);
        due.is("lift k", x.lifts(0, -1), BAD);
        due.is("lift surface", x.lifts(-1, 0), BAD);
        due.is("lifted", x.lifts(0, 0), 7);
        due.is("lifted", x.lifts(0, 0), 9);
        due.is("lift none", x.lifts(0, 0), NONE);
    }

    private static void as() {
        DustLayers x = new DustLayers();
        boolean[][] of = {
            {true, false, false, false, false, false},
            {true, true, false, false, false, false},
            {true, false, true, false, false, false},
            {true, true, false, true, false, false},
            {true, false, true, false, true, false},
            {true, false, false, false, false, true},
        };
        for (int kind = 0; kind < 6; kind++) {
            x.surface(kind, kind + 1);
            for (int wanted = 0; wanted < 6; wanted++) {
                due.is(kind + " as " + wanted, x.as(kind, wanted), of[kind][wanted] ? kind + 1 : KIND);
            }
        }
        due.is("as kind", x.as(0, 6), BAD);
        due.is("as kind", x.as(0, -1), BAD);
        due.is("as surface", x.as(6, 0), BAD);
    }

    private static void turnsDampRule() {
        DustLayers x = new DustLayers();
        x.surface(2, 5);
        due.is("turns", x.turns(0, 3), 2);
        due.is("kind", x.told(0, 0), 3);
        due.is("turns again", x.turns(0, 3), 3);
        due.is("turns kind", x.turns(0, 6), BAD);
        due.is("turns kind", x.turns(0, -1), BAD);
        due.is("turns surface", x.turns(1, 0), BAD);
        due.is("damp", x.damp(0, 9), 5);
        due.is("damp", x.damp(0, 0), 9);
        due.is("damp v", x.damp(0, 10), BAD);
        due.is("damp v", x.damp(0, -1), BAD);
        due.is("damp surface", x.damp(1, 1), BAD);
        due.is("damp stays", x.told(0, 1), 0);
        due.is("broom", x.rule(0, 100), 20);
        due.is("draught", x.rule(1, 0), 10);
        due.is("broom", x.count(2), 100);
        due.is("draught", x.count(3), 0);
        due.is("rule what", x.rule(2, 0), BAD);
        due.is("rule what", x.rule(-1, 0), BAD);
        due.is("rule v", x.rule(0, 101), BAD);
        due.is("rule v", x.rule(1, -1), BAD);
        due.is("broom stays", x.count(2), 100);
    }

    private static void settlesAndSweeps() {
        DustLayers x = new DustLayers();
        x.surface(1, 0);
        x.surface(4, 0);
        for (int k = 0; k < 12; k++) {
            due.is("settles " + k, x.settles(0, k % 3), k + 1);
        }
        due.is("the thirteenth", x.settles(0, 9), 12);
        due.is("pressed", x.told(0, 3), 1);
        due.is("oldest", x.layer(0, 0), 1);
        due.is("newest", x.layer(0, 11), 9);
        due.is("settles deed", x.settles(0, 10), BAD);
        due.is("settles deed", x.settles(0, -1), BAD);
        due.is("settles surface", x.settles(2, 1), BAD);
        due.is("a lintel is swept of one", x.sweeps(0), 1);
        due.is("newest", x.layer(0, 10), 2);
        due.is("nothing above", x.layer(0, 11), NONE);
        Due.settle(x, 1, 1, 2, 3);
        due.is("as many as there are", x.sweeps(1), 3);
        due.is("none are left", x.sweeps(1), 0);
        due.is("swept", x.hall(0), 4);
        due.is("sweeps surface", x.sweeps(2), BAD);
        due.is("sweeps surface", x.sweeps(-1), BAD);
    }

    private static void dealAndSeed() {
        DustLayers x = new DustLayers();
        due.is("deal", x.deal(0), BAD);
        due.is("deal", x.deal(9), BAD);
        due.is("seed", x.seed(77), 1);
        due.is("deal", x.deal(3), 3);
        int z = 77;
        for (int k = 0; k < 3; k++) {
            z = z * 1103515245 + 12345;
            due.is("kind of " + k, x.told(k, 0), (z >>> 8) % 6);
            z = z * 1103515245 + 12345;
            due.is("damp of " + k, x.told(k, 1), (z >>> 8) % 10);
        }
        due.is("z", x.count(7), z);
        due.is("room for five", x.deal(8), 5);
        int full = x.count(7);
        due.is("room for none", x.deal(1), 0);
        due.is("no draws then", x.count(7), full);
        due.is("seed", x.seed(-5), full);
    }

    private static void days() {
        DustLayers x = new DustLayers();
        due.is("days", x.days(0), BAD);
        due.is("days", x.days(101), BAD);
        due.is("days", x.days(-1), BAD);
        due.is("an empty hall", x.days(2), 0);
        int z = 1;
        for (int k = 0; k < 6; k++) {
            z = z * 1103515245 + 12345;
        }
        due.is("three draws a day", x.count(7), z);
        due.is("the day", x.count(1), 2);
        for (int k = 0; k < 99; k++) {
            x.days(100);
        }
        due.is("the day", x.count(1), 9902);
        x.days(97);
        due.is("the day", x.count(1), 9999);
        int last = x.count(7);
        due.is("no more days", x.days(100), 0);
        due.is("the day", x.count(1), 9999);
        due.is("no draws then", x.count(7), last);
    }

    /** By hand: with broom and draught at 100 a day of a hall with surfaces has five draws. */
    private static void draught() {
        DustLayers x = new DustLayers();
        x.surface(5, 0);
        x.surface(5, 0);
        x.rule(0, 0);
        x.rule(1, 100);
        int z = 1;
        int[] many = {0, 0};
        int blown = 0;
        for (int day = 0; day < 9; day++) {
            many[0]++;
            many[1]++;
            int one = 0;
            for (int k = 0; k < 4; k++) {
                z = z * 1103515245 + 12345;
                one = (z >>> 8) % 2;
            }
            many[one]--;
            many[1 - one]++;
            blown++;
            due.is("swept", x.days(1), 0);
            due.is("layers", x.told(0, 2), Math.min(12, many[0]));
            due.is("layers", x.told(1, 2), Math.min(12, many[1]));
            due.is("blown", x.hall(1), blown);
            if (many[0] > 12 || many[1] > 12) {
                break;
            }
        }
        DustLayers alone = new DustLayers();
        alone.surface(0, 0);
        alone.rule(0, 0);
        alone.rule(1, 100);
        alone.days(5);
        due.is("one alone is not blown from", alone.hall(1), 0);
        due.is("and has all", alone.told(0, 2), 5);
        DustLayers dry = new DustLayers();
        dry.surface(4, 0);
        dry.surface(4, 0);
        dry.rule(1, 100);
        dry.days(20);
        due.is("nothing is blown from bare ones", dry.hall(1), 0);
    }

    private static void hall() {
        DustLayers x = new DustLayers();
        x.surface(0, 0);
        x.surface(1, 0);
        x.surface(5, 0);
        for (int k = 0; k < 14; k++) {
            x.settles(0, 1);
        }
        for (int k = 0; k < 13; k++) {
            x.settles(2, 1);
        }
        x.sweeps(0);
        due.is("swept", x.hall(0), 2);
        due.is("blown", x.hall(1), 0);
        due.is("pressed", x.hall(2), 3);
        due.is("layers", x.hall(3), 22);
        due.is("bare", x.hall(4), 2);
        due.is("hall what", x.hall(5), BAD);
        due.is("hall what", x.hall(-1), BAD);
    }
}
