/** What the project's tests share: counting answers that are not as due, and laying texts on the tape. */
final class Due {
    private int wrong;
    private int seen;

    void is(String call, int got, int want) {
        seen++;
        if (got != want) {
            wrong++;
            System.out.println(call + " answered " + got + ", due is " + want);
        }
    }

    void isNot(String call, int got, int not) {
        seen++;
        if (got == not) {
            wrong++;
            System.out.println(call + " answered " + got + ", which is not due");
        }
    }

    void same(String what, Object got, Object want) {
        seen++;
        if (!got.equals(want)) {
            wrong++;
            System.out.println(what + ": " + got + ", due is " + want);
        }
    }

    void end(String name) {
        System.out.println(name + ": " + seen + " answers, " + wrong + " not as due");
        if (wrong != 0) {
            System.exit(1);
        }
    }

    /** Feeds a text's bytes and trims what fills up the last twelve. */
    static void lay(DustLayers x, String text) {
        for (int at = 0; at < text.length(); at += 12) {
            x.feed(word(text, at), word(text, at + 4), word(text, at + 8));
        }
        x.trim(text.length());
    }

    static int text(DustLayers x, String text) {
        lay(x, text);
        return x.text();
    }

    static int word(String text, int at) {
        int word = 0;
        for (int k = at; k < at + 4; k++) {
            word = word << 8 | (k < text.length() ? text.charAt(k) & 255 : 'x');
        }
        return word;
    }

    /** A sheet becomes a row of shorts (0) or floats (1) with these places. */
    static void row(DustLayers x, int sheet, int sort, int... places) {
        x.sheet(sheet, sort, places.length);
        for (int k = 0; k < places.length; k++) {
            x.mark(sheet, k, places[k]);
        }
    }

    static void settle(DustLayers x, int surface, int... deeds) {
        for (int deed : deeds) {
            x.settles(surface, deed);
        }
    }
}
