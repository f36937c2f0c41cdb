/** Promises 28 to 34, and what a lift law does: the tape, texts, faults, what they give. */
public final class TextsTest {
    private static final int BAD = -1000000001, FULL = -1000000003, NONE = -1000000005;
    private static final Due due = new Due();

    public static void main(String[] args) {
        tape();
        faults();
        nesting();
        gives();
        which();
        lift();
        full();
        due.end("TextsTest");
    }

    private static void tape() {
        DustLayers x = new DustLayers();
        for (int k = 1; k <= 8; k++) {
            due.is("feed", x.feed(0, 0, 0), 12 * k);
        }
        due.is("feed", x.feed(0, 0, 0), FULL);
        due.is("bytes", x.count(6), 96);
        due.is("trim", x.trim(97), BAD);
        due.is("trim", x.trim(-1), BAD);
        due.is("trim", x.trim(85), 85);
        due.is("more than 96", x.feed(0, 0, 0), FULL);
        due.is("trim", x.trim(84), 84);
        due.is("feed", x.feed(0, 0, 0), 96);
        due.is("trim", x.trim(0), 0);
        due.is("bytes", x.count(6), 0);
        due.is("no bytes", x.text(), -100);
        x.feed(0x66656520, 0x73000000, 0);
        due.is("used up by a fault", x.text(), -105);
        due.is("used up by a fault", x.count(6), 0);
        x.feed(0x20206665, 0x65202031, 0x2b732020);
        due.is("highest bytes first", x.text(), 0);
        due.is("used up", x.count(6), 0);
        due.is("1 and swept", x.fee(), 1);
    }

    private static void fault(String text, int place) {
        DustLayers x = new DustLayers();
        due.is("'" + text + "'", Due.text(x, text), place < 0 ? 0 : -100 - place);
        due.is("'" + text + "': texts", x.count(4), place < 0 ? 1 : 0);
        due.is("'" + text + "': bytes", x.count(6), 0);
    }

    private static void right(String text) {
        fault(text, -1);
    }

    private static void faults() {
        fault("", 0);
        fault("   ", 3);
        fault("lift", 4);
        fault("lift  ", 6);
        fault("lifts n", 0);
        fault("12", 0);
        fault("Lift n", 0);
        fault(" + lift n", 1);
        fault("liftn", 0);
        fault("lifta n", 0);
        fault("liftz n", 0);
        fault("nift n", 0);
        fault("gee s", 0);
        fault("line n", 0);
        fault("lift`n", 4);
        fault("lift{n", 4);
        fault("lift/1", 4);
        fault("lift:1", 4);
        fault("lift 1:", 6);
        fault("lift2", 4);
        right("lift 2");
        right("lift(2)");
        right("  fine!p ");
        fault("fine 3n", 6);
        fault("fine 3 n", 7);
        fault("fine n3", 6);
        fault("fine np", 5);
        fault("fine d", 5);
        fault("lift s", 5);
        fault("fee n", 4);
        right("fee s|b");
        right("lift n&d&t");
        fault("lift 12345", 5);
        right("lift 0001");
        fault("lift n+", 7);
        fault("lift n+ ", 8);
        fault("lift n+*n", 7);
        fault("lift -1", 5);
        fault("lift n<d<t", 8);
        right("lift (n<d)<t");
        fault("lift n=d=1", 8);
        right("lift n=d&t>1|n");
        fault("lift (n", 7);
        fault("lift (n]", 7);
        fault("lift n)", 6);
        fault("lift ()", 6);
        fault("lift n lift n", 7);
        fault("lift n\t", 6);
        fault("lift n" + (char) 233, 6);
        fault("lift n!d", 6);
        fault("lift n d", 7);
        fault("lift !", 6);
        fault("lift n %2", 7);
        right("lift 1" + "+1".repeat(45));
        fault("lift 1" + "+1".repeat(44) + " +", 96);
    }

    private static void nesting() {
        right("lift " + "(".repeat(8) + "n" + ")".repeat(8));
        fault("lift " + "(".repeat(9) + "n" + ")".repeat(9), 13);
        fault("lift " + "(".repeat(8) + "n" + ")".repeat(8) + "+(" + "(".repeat(8) + "n", 31);
        right("lift " + "(".repeat(7) + "n" + ")".repeat(7) + "+" + "(".repeat(8) + "n" + ")".repeat(8));
        right("lift " + "!".repeat(8) + "n");
        fault("lift " + "!".repeat(9) + "n", 13);
        right("lift " + "!".repeat(8) + "n+" + "!".repeat(8) + "n");
        right("lift " + "!(".repeat(8) + "n" + ")".repeat(8));
        fault("lift " + "!(".repeat(8) + "!n" + ")".repeat(8), 21);
        fault("lift " + "!(".repeat(8) + "(n" + ")".repeat(9), 21);
        right("lift " + "(".repeat(8) + "!".repeat(8) + "n" + ")".repeat(8));
    }

    private static void worth(String e, int want) {
        DustLayers x = new DustLayers();
        due.is("text " + e, Due.text(x, "fee " + e), 0);
        due.is(e, x.fee(), want);
    }

    private static void gives() {
        worth("1+2*3", 7);
        worth("(1+2)*3", 9);
        worth("10-3-2", 5);
        worth("100/7/2", 7);
        worth("0-7/2", -3);
        worth("(0-7)/2", -3);
        worth("5/0", 0);
        worth("0-5/(s-s)+1", 1);
        worth("2<3", 1);
        worth("3<3", 0);
        worth("3=3", 1);
        worth("4>3", 1);
        worth("3>3", 0);
        worth("1+1=2", 1);
        worth("5|0", 1);
        worth("0|0", 0);
        worth("5&2", 1);
        worth("5&0", 0);
        worth("1|0&0", 1);
        worth("(1|0)&0", 0);
        worth("!5", 0);
        worth("!0", 1);
        worth("!0*7", 7);
        worth("!!9", 1);
        worth("!(1=2)+3", 4);
        worth("1=1&2", 1);
        worth("0|7", 1);
        worth("9999*9999*9999", 9999 * 9999 * 9999);
        worth("9999*9999*9999/(0-1)", 9999 * 9999 * 9999 / -1);
        worth("0007 * 1", 7);
    }

    private static void which() {
        DustLayers x = new DustLayers();
        due.is("none counts", x.why(0), NONE);
        due.is("key", x.why(3), BAD);
        due.is("key", x.why(-1), BAD);
        due.is("text", Due.text(x, "fine n"), 0);
        due.is("text", Due.text(x, "fee (s+b*2)&!1|s"), 1);
        due.is("text", Due.text(x, "lift n+t+d"), 2);
        due.is("text", Due.text(x, "fine 12"), 3);
        due.is("key", x.textTold(0, 0), 2);
        due.is("key", x.textTold(1, 0), 1);
        due.is("key", x.textTold(2, 0), 0);
        due.is("atoms", x.textTold(0, 1), 1);
        due.is("atoms", x.textTold(1, 1), 5);
        due.is("atoms", x.textTold(2, 1), 3);
        due.is("told last", x.why(2), 3);
        due.is("told last", x.why(1), 1);
        due.is("told last", x.why(0), 2);
        due.is("what", x.textTold(0, 2), BAD);
        due.is("what", x.textTold(0, -1), BAD);
        due.is("text", x.textTold(4, 0), BAD);
        due.is("text", x.textTold(-1, 0), BAD);
    }

    private static void lift() {
        DustLayers x = new DustLayers();
        for (int kind = 0; kind < 6; kind++) {
            x.surface(kind, 4);
        }
        Due.settle(x, 0, 1, 2, 3, 4, 5);
        Due.text(x, "lift n+d*10+t*100");
        due.is("held within 12", x.told(0, 5), 12);
        Due.text(x, "lift 0-n");
        due.is("held within 0", x.told(0, 5), 0);
        due.is("nothing less", x.told(1, 5), 0);
        due.is("a cloth, and 1", x.told(4, 5), 1);
        Due.text(x, "lift d-1+t");
        int[] lifts = {3, 2, 6, 0, 7, 0};
        for (int kind = 0; kind < 6; kind++) {
            due.is("lifts of " + kind, x.told(kind, 5), lifts[kind]);
        }
        due.is("swept", x.sweeps(0), 3);
        Due.text(x, "lift 12");
        due.is("twice", x.told(2, 5), 24);
        due.is("and 1", x.told(4, 5), 25);
        Due.text(x, "lift t");
        x.days(6);
        due.is("the day", x.told(0, 5), 6);
    }

    private static void full() {
        DustLayers x = new DustLayers();
        for (int k = 0; k < 14; k++) {
            due.is("text", Due.text(x, "fee " + k), k);
        }
        due.is("full", Due.text(x, "fee 99"), FULL);
        due.is("used up", x.count(6), 0);
        due.is("a fault stands first", Due.text(x, "fee 99 9"), -107);
        due.is("texts", x.count(4), 14);
        due.is("fee", x.fee(), 13);
    }
}
