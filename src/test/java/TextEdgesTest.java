/** Terms 4, promises 28 to 34: each boundary that the document names, at it and on both sides of it. */
public final class TextEdgesTest {
    private static final int BAD = -1000000001, FULL = -1000000003, NONE = -1000000005;
    private static final Due due = new Due();

    public static void main(String[] args) {
        ninetySixBytes();
        highestByteFirst();
        bytesComeBehind();
        trimEdges();
        refusals();
        usedUpWhateverIsAnswered();
        fourteenTexts();
        toldLast();
        keyWords();
        namesOfKeys();
        fourDigits();
        bytesThatAreNoWords();
        blanks();
        wordBehindWord();
        endTooSoon();
        textOfNinetySixBytes();
        ninthBracket();
        ninthNot();
        oneTestOnly();
        everyShortText();
        looserAndTighter();
        intsWrap();
        byZero();
        oneOrZero();
        namesAtTheirEdges();
        numbersAndNames();
        due.end("TextEdgesTest");
    }

    private static void right(String text) {
        DustLayers x = new DustLayers();
        due.is("'" + text + "'", Due.text(x, text), 0);
        due.is("'" + text + "': TEXTS", x.count(4), 1);
        due.is("'" + text + "': used up", x.count(6), 0);
    }

    private static void fault(String text, int place) {
        DustLayers x = new DustLayers();
        due.is("'" + text + "'", Due.text(x, text), -100 - place);
        due.is("'" + text + "': TEXTS", x.count(4), 0);
        due.is("'" + text + "': used up", x.count(6), 0);
        for (int key = 0; key < 3; key++) {
            due.is("'" + text + "': none counts", x.why(key), NONE);
        }
    }

    private static void gives(String e, int want) {
        DustLayers x = new DustLayers();
        due.is("fee " + e, Due.text(x, "fee " + e), 0);
        due.is(e, x.fee(), want);
    }

    // ---- THE TAPE

    private static void ninetySixBytes() {
        DustLayers x = new DustLayers();
        for (int k = 1; k <= 8; k++) {
            due.is("feed " + k, x.feed(k, -k, k), 12 * k);
            due.is("bytes", x.count(6), 12 * k);
        }
        due.is("97 to 108", x.feed(0, 0, 0), FULL);
        for (int n = 96; n >= 85; n--) {
            x.trim(n);
            due.is("12 to " + n, x.feed(0, 0, 0), FULL);
            due.is("bytes", x.count(6), n);
        }
        x.trim(84);
        due.is("12 to 84", x.feed(0, 0, 0), 96);
        x.trim(83);
        due.is("12 to 83", x.feed(0, 0, 0), 95);
        due.is("12 to 95", x.feed(0, 0, 0), FULL);
    }

    private static void highestByteFirst() {
        String text = "fee 1+20*3-4";
        DustLayers x = new DustLayers();
        x.feed(0x66656520, 0x312b3230, 0x2a332d34);
        due.is(text, x.text(), 0);
        due.is(text, x.fee(), 57);
        for (int at = 0; at < 12; at++) {
            char[] spoilt = "fee 1       ".toCharArray();
            if (at < 5) {
                spoilt = "            ".toCharArray();
            }
            spoilt[at] = (char) 200;
            fault(new String(spoilt), at);
        }
        DustLayers y = new DustLayers();
        y.feed(Integer.MIN_VALUE, -1, Integer.MAX_VALUE);
        due.is("bytes above 127 are signs", y.text(), -100);
    }

    private static void bytesComeBehind() {
        DustLayers x = new DustLayers();
        Due.lay(x, "fee 12");
        due.is("bytes", x.count(6), 6);
        x.feed(0x332b3131, 0x31313131, 0x31313131);
        due.is("behind those that were kept", x.count(6), 18);
        x.trim(9);
        due.is("fee 123+1", x.text(), 0);
        due.is("fee 123+1", x.fee(), 124);
    }

    private static void trimEdges() {
        DustLayers x = new DustLayers();
        due.is("none of none", x.trim(0), 0);
        due.is("one of none", x.trim(1), BAD);
        due.is("less than none", x.trim(-1), BAD);
        x.feed(0, 0, 0);
        due.is("one more than there are", x.trim(13), BAD);
        due.is("all", x.trim(12), 12);
        due.is("all but one", x.trim(11), 11);
        due.is("those that were cut off", x.trim(12), BAD);
        due.is("bytes", x.count(6), 11);
        due.is("none", x.trim(0), 0);
        due.is("bytes", x.count(6), 0);
    }

    private static DustLayers faultAhead() {
        DustLayers x = Refused.brimful();
        x.trim(0);
        Due.lay(x, "fee 1 2");
        return x;
    }

    private static DustLayers tapeOf85() {
        DustLayers x = Refused.brimful();
        x.trim(85);
        return x;
    }

    private static void refusals() {
        Refused b = new Refused(due, "brimful", Refused::brimful);
        b.by("30: feed to 96", FULL, x -> x.feed(1, 2, 3));
        b.butFor(Refused.Side.TAPE, "32: the fifteenth TEXT", FULL, x -> x.text());
        Refused f = new Refused(due, "a FAULT and FULL", TextEdgesTest::faultAhead);
        f.butFor(Refused.Side.TAPE, "32: a FAULT stands ahead of FULL", -106, x -> x.text());
        Refused t = new Refused(due, "85 bytes", TextEdgesTest::tapeOf85);
        t.by("30: feed to 85", FULL, x -> x.feed(1, 2, 3));
        Refused fresh = new Refused(due, "fresh", DustLayers::new);
        fresh.by("32: an empty TAPE", -100, x -> x.text());
        for (int key = 0; key < 3; key++) {
            int k = key;
            fresh.by("34: none", NONE, x -> x.why(k));
        }
        Refused lived = new Refused(due, "lived", Refused::lived);
        lived.by("34: none of fine", NONE, x -> x.why(2));
        lived.by("33: both wrong", BAD, x -> x.textTold(2, 2));
    }

    private static void usedUpWhateverIsAnswered() {
        DustLayers x = new DustLayers();
        due.is("a TEXT", Due.text(x, "fee 1"), 0);
        due.is("bytes", x.count(6), 0);
        due.is("nothing is left", x.text(), -100);
        due.is("a FAULT", Due.text(x, "fee ?"), -104);
        due.is("bytes", x.count(6), 0);
        due.is("nothing is left", x.text(), -100);
        for (int k = 1; k < 14; k++) {
            Due.text(x, "fee 2");
        }
        due.is("FULL", Due.text(x, "fee 3"), FULL);
        due.is("bytes", x.count(6), 0);
        due.is("nothing is left", x.text(), -100);
        due.is("room for 96 bytes again", fedEightTimes(x), 96);
    }

    private static int fedEightTimes(DustLayers x) {
        int many = 0;
        for (int k = 0; k < 8; k++) {
            many = x.feed(0, 0, 0);
        }
        return many;
    }

    private static void fourteenTexts() {
        DustLayers x = new DustLayers();
        for (int k = 0; k < 14; k++) {
            if (k == 13) {
                x.keep();
            }
            due.is("TEXT " + k, Due.text(x, k % 2 == 0 ? "fee 5+" + k : "fine 6+" + k), k);
            due.is("TEXTS", x.count(4), k + 1);
        }
        due.is("the fifteenth", Due.text(x, "lift 1"), FULL);
        due.is("TEXTS", x.count(4), 14);
        due.is("none of lift", x.why(0), NONE);
        due.is("the fourteenth counts", x.why(2), 13);
        due.is("no fifteenth", x.textTold(14, 0), BAD);
        due.is("the fourteenth", x.textTold(13, 0), 2);
        x.back();
        due.is("room for one again", Due.text(x, "lift 1"), 13);
        due.is("and no more", Due.text(x, "lift 2"), FULL);
    }

    private static void toldLast() {
        DustLayers x = new DustLayers();
        int[] last = {NONE, NONE, NONE};
        String[] keys = {"lift 1", "fee 1", "fine 1"};
        int[] order = {2, 2, 0, 1, 0, 1, 1, 2};
        for (int k = 0; k < order.length; k++) {
            Due.text(x, keys[order[k]]);
            last[order[k]] = k;
            for (int key = 0; key < 3; key++) {
                due.is("behind " + k + ", KEY " + key, x.why(key), last[key]);
            }
            due.is("its KEY", x.textTold(k, 0), order[k]);
            due.is("no next one", x.textTold(k + 1, 0), BAD);
        }
        Due.text(x, "fee ?");
        due.is("a FAULT counts for nothing", x.why(1), 6);
    }

    // ---- words

    private static void keyWords() {
        String[] keys = {"lift", "fee", "fine"};
        for (String key : keys) {
            right(key + " 1");
            fault(key.substring(0, key.length() - 1) + " 1", 0);
            fault(key.substring(1) + " 1", 0);
            fault(key + key.charAt(key.length() - 1) + " 1", 0);
            fault(key + key + " 1", 0);
            fault("a" + key + " 1", 0);
            fault(key.toUpperCase() + " 1", 0);
            fault("  " + key.toUpperCase() + " 1", 2);
            fault(key + " " + key, key.length() + 1);
            for (int at = 0; at < key.length(); at++) {
                fault(key.substring(0, at) + "q" + key.substring(at + 1) + " 1", 0);
                if (at > 0) {
                    fault(key.substring(0, at) + " " + key.substring(at) + " 1", 0);
                }
            }
        }
        fault("1 lift", 0);
        fault("n", 0);
        fault("(lift 1)", 0);
        fault("!lift 1", 0);
    }

    private static void namesOfKeys() {
        String[] keys = {"lift", "fee", "fine"};
        String[] names = {"ndt", "sb", "np"};
        for (int key = 0; key < 3; key++) {
            for (char c = 'a'; c <= 'z'; c++) {
                String text = keys[key] + " " + c;
                if (names[key].indexOf(c) >= 0) {
                    right(text);
                    fault(text + c, keys[key].length() + 1);
                    fault(keys[key] + " " + Character.toUpperCase(c), keys[key].length() + 1);
                } else {
                    fault(text, keys[key].length() + 1);
                }
            }
        }
    }

    private static void fourDigits() {
        right("lift 0");
        right("lift 12");
        right("lift 123");
        right("lift 1234");
        fault("lift 12345", 5);
        fault("lift 00000", 5);
        fault("lift n+12345+", 7);
        fault("lift " + "1".repeat(91), 5);
        gives("0", 0);
        gives("9999", 9999);
        gives("0009", 9);
        gives("0000", 0);
    }

    private static void bytesThatAreNoWords() {
        for (int c = 0; c < 256; c++) {
            if (c == ' ') {
                continue;
            }
            boolean joins = "|&<=>+-*/".indexOf(c) >= 0;
            boolean word = c >= 'a' && c <= 'z' || c >= '0' && c <= '9';
            String signs = "fee 1 " + (char) c;
            if (joins) {
                fault(signs, 7);
                right(signs + "1");
            } else {
                fault(signs, 6);
            }
            String opens = "fee " + (char) c;
            if (c == '!' || c == '(') {
                fault(opens, 5);
            } else if (c >= '0' && c <= '9' || c == 's' || c == 'b') {
                right(opens);
            } else {
                fault(opens, 4);
            }
            if (!word) {
                fault("fee s" + (char) c + "?", joins ? 6 : 5);
            }
        }
    }

    private static void blanks() {
        right(" fee 1");
        right("fee 1 ");
        right("   fee   (   1   +   s   )   ");
        right("fee(1)");
        right("fee!1");
        right("fee  ! ! 1");
        fault("fee+1", 3);
        fault(" ", 1);
        fault(" ".repeat(96), 96);
        right("fee" + " ".repeat(92) + "1");
        right(" ".repeat(91) + "fee 1");
        right("fee 1" + " ".repeat(91));
        fault("fee" + " ".repeat(93), 96);
        fault("fee 1 0", 6);
        fault("fee s b", 6);
        fault("f ee 1", 0);
        fault("fee\t1", 3);
        fault("fee 1\n", 5);
        fault("fee" + (char) 0 + "1", 3);
        fault("fee" + (char) 160 + "1", 3);
    }

    private static void wordBehindWord() {
        fault("fee1", 3);
        right("fee 1");
        fault("fees", 0);
        right("fee s");
        fault("fee 1s", 5);
        fault("fee s1", 5);
        fault("fee 1 s", 6);
        fault("fee s 1", 6);
        fault("fee 12345s", 4);
        fault("fee1234", 3);
        fault("fee12345", 3);
        right("fee(s)+1");
        fault("fee(s)1", 6);
        fault("fee(s)s", 6);
        fault("fee(1s)", 5);
        fault("1fee s", 0);
        fault("fee 1fee", 5);
    }

    private static void endTooSoon() {
        fault("", 0);
        fault("lift", 4);
        fault("lift ", 5);
        fault("fee 1+", 6);
        fault("fee 1+  ", 8);
        fault("fee !", 5);
        fault("fee (", 5);
        fault("fee (1", 6);
        fault("fee (1 ", 7);
        fault("fee ((1)", 8);
        for (String sign : "| & < = > + - * /".split(" ")) {
            fault("fee 1" + sign, 6);
            fault("fee 1" + sign + " ", 7);
            fault("fee 1" + sign + ")", 6);
            fault("fee " + sign + "1", 4);
        }
    }

    private static void textOfNinetySixBytes() {
        String full = "fee 1" + "+1".repeat(45) + " ";
        right(full);
        right("fee 10" + "+1".repeat(45));
        fault("fee 10" + "+1".repeat(44) + " +", 96);
        fault("fee 10" + "+1".repeat(44) + "+?", 95);
        fault("fee 1" + "+1".repeat(45) + ")", 95);
        DustLayers x = new DustLayers();
        Due.text(x, full);
        due.is("46 ones", x.fee(), 46);
        due.is("46 NUMBERS", x.textTold(0, 1), 46);
        right("fee " + "1-(".repeat(8) + "1" + ")".repeat(8) + "*1".repeat(29));
    }

    private static void ninthBracket() {
        for (int many = 0; many <= 12; many++) {
            String text = "fee " + "(".repeat(many) + "1" + ")".repeat(many);
            if (many <= 8) {
                right(text);
            } else {
                fault(text, 12);
            }
        }
        String eight = "(".repeat(8) + "s" + ")".repeat(8);
        right("fee " + eight + "+" + eight + "+" + eight);
        fault("fee " + eight + "+(" + eight + ")", 30);
        right("fee " + "(".repeat(7) + "(1)+(1)" + ")".repeat(7));
        fault("fee " + "(".repeat(7) + "(1)+((1))" + ")".repeat(7), 16);
        fault("fee " + "(".repeat(8) + ")", 12);
        fault("fee " + "(".repeat(8), 12);
        fault("fee " + "(".repeat(9), 12);
        fault("fee (1))", 7);
    }

    private static void ninthNot() {
        for (int many = 0; many <= 12; many++) {
            String text = "fee " + "!".repeat(many) + "1";
            if (many <= 8) {
                right(text);
                gives("!".repeat(many) + "5", many == 0 ? 5 : many % 2 == 0 ? 1 : 0);
            } else {
                fault(text, 12);
            }
        }
        String eight = "!".repeat(8) + "s";
        right("fee " + eight + "+" + eight + "*" + eight + "|" + eight);
        right("fee " + "(".repeat(8) + eight + ")".repeat(8));
        fault("fee " + "(".repeat(8) + "!" + eight + ")".repeat(8), 20);
        right("fee " + "!(".repeat(8) + "s" + ")".repeat(8));
        fault("fee " + "!(".repeat(8) + "!s" + ")".repeat(8), 20);
        fault("fee " + "!(".repeat(8) + "(s" + ")".repeat(9), 20);
        right("fee " + "!".repeat(7) + "(!s+!s)");
        fault("fee " + "!".repeat(7) + "(!s+!!s)", 16);
        fault("fee " + "!".repeat(8) + "(!s)", 13);
        right("fee " + "!".repeat(8) + "(s)+!s");
        fault("fee " + "!".repeat(8), 12);
    }

    private static void oneTestOnly() {
        for (String one : "< = >".split(" ")) {
            for (String other : "< = >".split(" ")) {
                fault("fee 1" + one + "2" + other + "3", 7);
                fault("fee 1" + one + other + "3", 6);
                right("fee (1" + one + "2)" + other + "3");
                right("fee 1" + one + "2&3" + other + "4|5" + other + "6");
                right("fee 1" + one + "(2" + other + "3)");
                fault("fee 1" + one + "(2" + other + "3)" + other + "4", 11);
            }
        }
    }

    // ---- all short texts, by what may stand next

    private static final String[] TOKENS = {"s", "7", "12345", "!", "(", ")", "+", "*", "=", "&", "|", "p"};

    private static void everyShortText() {
        int[] chosen = new int[5];
        for (int many = 0; many <= 5; many++) {
            everyTextOf(chosen, 0, many);
        }
    }

    private static void everyTextOf(int[] chosen, int at, int many) {
        if (at == many) {
            StringBuilder text = new StringBuilder("fee");
            for (int k = 0; k < many; k++) {
                text.append(' ').append(TOKENS[chosen[k]]);
            }
            DustLayers x = new DustLayers();
            due.is("'" + text + "'", Due.text(x, text.toString()), faultOf(chosen, many, text.length()));
            return;
        }
        for (int k = 0; k < TOKENS.length; k++) {
            chosen[at] = k;
            everyTextOf(chosen, at + 1, many);
        }
    }

    /** No grammar: what may stand next by what stood last, how many are open, and where a test has been. */
    private static int faultOf(int[] chosen, int many, int length) {
        boolean wanted = true;
        int open = 0;
        boolean[] tested = new boolean[8];
        int place = 3;
        for (int k = 0; k < many; k++) {
            place++;
            String token = TOKENS[chosen[k]];
            boolean fits;
            switch (token) {
                case "s": case "7":
                    fits = wanted;
                    wanted = false;
                    break;
                case "!":
                    fits = wanted;
                    break;
                case "(":
                    fits = wanted;
                    open++;
                    tested[open] = false;
                    break;
                case ")":
                    fits = !wanted && open > 0;
                    open--;
                    break;
                case "+": case "*":
                    fits = !wanted;
                    wanted = true;
                    break;
                case "=":
                    fits = !wanted && !tested[open];
                    tested[open] = true;
                    wanted = true;
                    break;
                case "&": case "|":
                    fits = !wanted;
                    tested[open] = false;
                    wanted = true;
                    break;
                default:
                    fits = false;
            }
            if (!fits) {
                return -100 - place;
            }
            place += token.length();
        }
        return wanted || open > 0 ? -100 - length : 0;
    }

    // ---- what texts give

    private static void looserAndTighter() {
        gives("1|1=0", 1);
        gives("0=0|0", 1);
        gives("0&0|1", 1);
        gives("1|0&0", 1);
        gives("2=1+1", 1);
        gives("1+1=2&3", 1);
        gives("7-2*3", 1);
        gives("7-6/4", 6);
        gives("7-3-2", 2);
        gives("8/4/2", 1);
        gives("8/4*2", 4);
        gives("7*3/2", 10);
        gives("!1+1", 1);
        gives("!(1+1)", 0);
        gives("!0*5", 5);
        gives("1<2&2<3", 1);
    }

    private static void intsWrap() {
        String least = "2*1024*1024*1024";
        gives(least, Integer.MIN_VALUE);
        gives(least + "-1", Integer.MAX_VALUE);
        gives("(" + least + "-1)+1", Integer.MIN_VALUE);
        gives("0-" + least, Integer.MIN_VALUE);
        gives(least + "/(0-1)", Integer.MIN_VALUE);
        gives(least + "*(0-1)", Integer.MIN_VALUE);
        gives(least + "*2", 0);
        gives(least + "<1", 1);
        gives(least + ">1", 0);
        gives("1>" + least, 1);
        gives("9999*9999*9999*9999", 9999 * 9999 * 9999 * 9999);
        gives("!(" + least + ")", 0);
    }

    private static void byZero() {
        gives("0/0", 0);
        gives("1/0", 0);
        gives("(0-1)/0", 0);
        gives("7/(3-3)", 0);
        gives("7/s", 0);
        gives("7/0*5+2", 2);
        gives("7/0/0", 0);
        gives("0&7/0", 0);
        gives("1|7/0", 1);
        gives("7/2", 3);
        gives("(0-7)/2", -3);
        gives("7/(0-2)", -3);
        gives("(0-7)/(0-2)", 3);
        gives("1/2", 0);
        gives("(0-1)/2", 0);
    }

    private static void oneOrZero() {
        gives("1<2", 1);
        gives("2<2", 0);
        gives("3<2", 0);
        gives("1=2", 0);
        gives("2=2", 1);
        gives("3=2", 0);
        gives("1>2", 0);
        gives("2>2", 0);
        gives("3>2", 1);
        gives("0&0", 0);
        gives("0&9", 0);
        gives("9&0", 0);
        gives("9&8", 1);
        gives("1&2", 1);
        gives("0|0", 0);
        gives("0|9", 1);
        gives("9|0", 1);
        gives("9|8", 1);
        gives("(0-1)&(0-2)", 1);
        gives("(0-1)|0", 1);
        gives("!0", 1);
        gives("!1", 0);
        gives("!9", 0);
        gives("!(0-1)", 0);
        gives("!!9", 1);
    }

    private static void namesAtTheirEdges() {
        DustLayers x = new DustLayers();
        x.surface(0, 9);
        x.surface(5, 0);
        x.rule(0, 0);
        x.rule(1, 0);
        Due.text(x, "fine n*100+p");
        due.is("none, none", x.fine(0), 0);
        for (int k = 0; k < 12; k++) {
            x.settles(0, 1);
        }
        due.is("twelve, none", x.fine(0), 1200);
        x.settles(0, 1);
        due.is("twelve, one", x.fine(0), 1201);
        due.is("of another SURFACE", x.fine(1), 0);
        Due.text(x, "lift d");
        due.is("DAMP 9", x.told(0, 5), 9);
        x.damp(0, 0);
        due.is("DAMP 0", x.told(0, 5), 0);
        Due.text(x, "lift n");
        due.is("twelve", x.told(0, 5), 12);
        due.is("all are SWEPT", x.sweeps(0), 12);
        due.is("none", x.told(0, 5), 0);
        Due.text(x, "fee s*100+b");
        due.is("12 SWEPT, none BLOWN", x.fee(), 1200);
        x.rule(1, 100);
        x.days(3);
        due.is("BLOWN", x.fee(), 1200 + x.hall(1));
        DustLayers last = Refused.lastDay();
        Due.text(last, "lift t=9999");
        due.is("THE DAY 9999", last.told(0, 5), 1);
        DustLayers first = new DustLayers();
        first.surface(0, 0);
        Due.text(first, "lift !t");
        due.is("THE DAY 0", first.told(0, 5), 1);
    }

    private static void numbersAndNames() {
        DustLayers x = new DustLayers();
        Due.text(x, "fee s");
        Due.text(x, "fee !!!(s)");
        Due.text(x, "fee s+s+s");
        Due.text(x, "lift (n<2)&d|t*7-0000");
        due.is("one", x.textTold(0, 1), 1);
        due.is("signs do not count", x.textTold(1, 1), 1);
        due.is("the same NAME again counts", x.textTold(2, 1), 3);
        due.is("NUMBERS and NAMES", x.textTold(3, 1), 6);
    }
}
