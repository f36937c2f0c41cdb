import java.util.Arrays;

/** A hall whose surfaces gather a layer of dust a day, and what can be read from them. */
public final class DustLayers {
    public static final int BAD = -1000000001, NO = -1000000002, FULL = -1000000003, NONE = -1000000005, NOTHING = -1000000011, KIND = -1000000012, INDEX = -1000000013, SIZE = -1000000014;

    private static final int MOST_SURFACES = 8;
    private static final int MOST_LAYERS = 12;
    private static final int DEEDS = 10;
    private static final int MOST_DAMP = 9;
    private static final int KINDS = 6;
    private static final int LAST_DAY = 9999;
    private static final int FARTHEST_DAY = 200;
    private static final int MOST_TEXTS = 14;
    private static final int MOST_BYTES = 96;
    private static final int MOST_NESTED = 8;
    private static final int MOST_DIGITS = 4;
    private static final int SHEETS = 4;
    private static final int MOST_PLACES = 24;
    private static final int SLOTS = 5;
    private static final int MOST_WAITING = 60;
    private static final int MOST_FLOAT = 99999;

    private static final int SHELF = 0, LINTEL = 1, TABLE = 2, ARCHIVE = 3, CLOTH = 4, TOP = 5;
    /** The kind above each kind; -1: there is none. */
    private static final int[] ABOVE = {-1, SHELF, SHELF, LINTEL, TABLE, SHELF};

    private static final int LIFT = 0, FEE = 1, FINE = 2, KEYS = 3;
    private static final int MISSING = -1, SHORTS = 0, FLOATS = 1;
    private static final int HOLDS_NOTHING = 0, HOLDS_SURFACE = 1, HOLDS_SHEET = 2, HOLDS_NUMBER = 3;

    private final Hall hall;
    private final Hall image;
    private final Hall thought;
    private boolean imaged;
    private final Tape tape;
    private final Grammar grammar;
    private final Readings readings;
    private final Sheet[] sheets;
    private final Slot[] slots;
    private final int[] waiting;
    private int waits;

    public DustLayers() {
        // Texts only ever come behind those that an image has, so one row serves all three halls.
        Text[] texts = new Text[MOST_TEXTS];
        hall = new Hall(texts);
        image = new Hall(texts);
        thought = new Hall(texts);
        tape = new Tape();
        grammar = new Grammar(tape);
        readings = new Readings();
        sheets = new Sheet[SHEETS];
        for (int k = 0; k < SHEETS; k++) {
            sheets[k] = new Sheet();
        }
        slots = new Slot[SLOTS];
        for (int k = 0; k < SLOTS; k++) {
            slots[k] = new Slot();
        }
        waiting = new int[MOST_WAITING];
    }

    // ---- surfaces

    public int surface(int kind, int damp) {
        if (!isBelow(kind, KINDS) || !isBelow(damp, MOST_DAMP + 1)) {
            return BAD;
        }
        if (hall.many >= MOST_SURFACES) {
            return FULL;
        }
        return hall.addSurface(kind, damp);
    }

    public int told(int surface, int what) {
        if (!isSurface(surface)) {
            return BAD;
        }
        Surface it = hall.surfaces[surface];
        switch (what) {
            case 0: return it.kind;
            case 1: return it.damp;
            case 2: return it.many;
            case 3: return it.pressed;
            case 4: return it.caughtSet(hall.day);
            case 5: return hall.broomTakesFrom(it);
            case 6: return it.worth();
            default: return BAD;
        }
    }

    public int layer(int surface, int k) {
        if (!isSurface(surface) || !isBelow(k, MOST_LAYERS)) {
            return BAD;
        }
        Surface it = hall.surfaces[surface];
        return k < it.many ? it.deeds[k] : NONE;
    }

    public int as(int surface, int kind) {
        if (!isSurface(surface) || !isBelow(kind, KINDS)) {
            return BAD;
        }
        Surface it = hall.surfaces[surface];
        return it.isOf(kind) ? it.damp : KIND;
    }

    public int turns(int surface, int kind) {
        if (!isSurface(surface) || !isBelow(kind, KINDS)) {
            return BAD;
        }
        int was = hall.surfaces[surface].kind;
        hall.surfaces[surface].kind = kind;
        return was;
    }

    public int damp(int surface, int v) {
        if (!isSurface(surface) || !isBelow(v, MOST_DAMP + 1)) {
            return BAD;
        }
        int was = hall.surfaces[surface].damp;
        hall.surfaces[surface].damp = v;
        return was;
    }

    public int rule(int what, int v) {
        if (!isBelow(what, 2) || !isBelow(v, 101)) {
            return BAD;
        }
        int was;
        if (what == 0) {
            was = hall.broom;
            hall.broom = v;
        } else {
            was = hall.draught;
            hall.draught = v;
        }
        return was;
    }

    public int settles(int surface, int deed) {
        if (!isSurface(surface) || !isBelow(deed, DEEDS)) {
            return BAD;
        }
        hall.surfaces[surface].settle(deed);
        return hall.surfaces[surface].many;
    }

    public int sweeps(int surface) {
        return isSurface(surface) ? hall.sweep(hall.surfaces[surface]) : BAD;
    }

    public int lifts(int surface, int k) {
        if (!isSurface(surface) || !isBelow(k, MOST_LAYERS)) {
            return BAD;
        }
        return hall.surfaces[surface].liftOut(k);
    }

    public int deal(int n) {
        if (n < 1 || n > MOST_SURFACES) {
            return BAD;
        }
        int came = Math.min(n, MOST_SURFACES - hall.many);
        for (int k = 0; k < came; k++) {
            int kind = hall.draw() % KINDS;
            int damp = hall.draw() % (MOST_DAMP + 1);
            hall.addSurface(kind, damp);
        }
        return came;
    }

    public int seed(int v) {
        int was = hall.z;
        hall.z = v;
        return was;
    }

    // ---- days

    public int days(int n) {
        if (n < 1 || n > 100) {
            return BAD;
        }
        int was = hall.swept;
        hall.passDays(Math.min(n, LAST_DAY - hall.day));
        return hall.swept - was;
    }

    public int hall(int what) {
        switch (what) {
            case 0: return hall.swept;
            case 1: return hall.blown;
            case 2: return hall.allPressed();
            case 3: return hall.allLayers();
            case 4: return hall.bareSet();
            default: return BAD;
        }
    }

    // ---- what is read

    public int lies(int sheet) {
        int refusal = rowRefusal(sheet);
        if (refusal != 0) {
            return refusal;
        }
        int set = 0;
        for (int k = 0; k < hall.many; k++) {
            if (hall.surfaces[k].bears(sheets[sheet])) {
                set |= 1 << k;
            }
        }
        return set;
    }

    public int proof(int sheet, int surface) {
        int refusal = rowRefusal(sheet, surface);
        if (refusal != 0) {
            return refusal;
        }
        int read = hall.surfaces[surface].readable(sheets[sheet]);
        return read < sheets[sheet].many ? read : NONE;
    }

    public int common(int one, int other, int what) {
        if (!isSurface(one) || !isSurface(other) || one == other || what < -1 || what >= MOST_LAYERS) {
            return BAD;
        }
        int length = readings.findCommon(hall.surfaces[one], hall.surfaces[other]);
        if (what == -1) {
            return length;
        }
        return what < length ? readings.common[what] : NONE;
    }

    public int hiding(int sheet, int surface) {
        int refusal = rowRefusal(sheet, surface);
        if (refusal != 0) {
            return refusal;
        }
        if (sheets[sheet].many == 0) {
            return NONE;
        }
        return readings.fewestToHide(sheets[sheet], hall.surfaces[surface]);
    }

    public int alike(int what) {
        if (!isBelow(what, 2)) {
            return BAD;
        }
        if (hall.many < 2) {
            return NONE;
        }
        int best = -1;
        int pair = 0;
        for (int one = 0; one < hall.many; one++) {
            for (int other = one + 1; other < hall.many; other++) {
                int length = readings.commonLength(hall.surfaces[one], hall.surfaces[other]);
                if (length > best) {
                    best = length;
                    pair = 10 * one + other;
                }
            }
        }
        return what == 0 ? pair : best;
    }

    public int forged(int what) {
        if (!isBelow(what, 2)) {
            return BAD;
        }
        if (hall.many < 2) {
            return NONE;
        }
        int least = commonWithAllOthers(0);
        int which = 0;
        for (int k = 1; k < hall.many; k++) {
            int lengths = commonWithAllOthers(k);
            if (lengths < least) {
                least = lengths;
                which = k;
            }
        }
        return what == 0 ? which : least;
    }

    // ---- what will be

    public int behind(int n, int what) {
        if (n < 0 || n > 100 || what < 0 || what >= 3 + hall.many) {
            return BAD;
        }
        thought.become(hall);
        thought.passDays(n);
        switch (what) {
            case 0: return thought.swept;
            case 1: return thought.blown;
            case 2: return thought.allPressed();
            default: return thought.surfaces[what - 3].many;
        }
    }

    public int gone(int sheet, int surface) {
        int refusal = rowRefusal(sheet, surface);
        if (refusal != 0) {
            return refusal;
        }
        thought.become(hall);
        int day = thought.dayRowIsGone(sheets[sheet], thought.surfaces[surface]);
        return day <= FARTHEST_DAY ? day : NONE;
    }

    public int safe(int sheet, int what) {
        if (!isBelow(what, 2)) {
            return BAD;
        }
        int refusal = rowRefusal(sheet);
        if (refusal != 0) {
            return refusal;
        }
        if (sheets[sheet].many > MOST_LAYERS) {
            return SIZE;
        }
        if (hall.many == 0) {
            return NONE;
        }
        int longest = -1;
        int which = 0;
        for (int k = 0; k < hall.many; k++) {
            thought.become(hall);
            thought.surfaces[k].settleRow(sheets[sheet]);
            int day = thought.dayRowIsGone(sheets[sheet], thought.surfaces[k]);
            if (day > longest) {
                longest = day;
                which = k;
            }
        }
        return what == 0 ? which : longest;
    }

    public int becomes(int surface, int n, int what) {
        if (!isSurface(surface) || n < 1 || n > 60 || !isBelow(what, 2)) {
            return BAD;
        }
        int most = -1;
        int best = 0;
        for (int kind = 0; kind < KINDS; kind++) {
            thought.become(hall);
            thought.surfaces[surface].kind = kind;
            thought.passDays(n);
            if (thought.surfaces[surface].many > most) {
                most = thought.surfaces[surface].many;
                best = kind;
            }
        }
        return what == 0 ? best : most;
    }

    public int kept(int n, int what) {
        if (n < 1 || n > 60 || !isBelow(what, 2)) {
            return BAD;
        }
        int most = -1;
        int best = 0;
        for (int broom = 0; broom <= 100; broom += 10) {
            thought.become(hall);
            thought.broom = broom;
            thought.passDays(n);
            int layers = thought.allLayers();
            if (layers > most) {
                most = layers;
                best = broom;
            }
        }
        return what == 0 ? best : most;
    }

    public int whose(int sheet, int what) {
        if (!isBelow(sheet, SHEETS) || !isBelow(what, 2)) {
            return BAD;
        }
        if (sheets[sheet].sort == MISSING) {
            return NOTHING;
        }
        if (hall.many == 0) {
            return NONE;
        }
        thought.become(hall);
        int[] differences = readings.differences;
        thought.addDifferences(sheets[sheet], differences);
        int which = 0;
        for (int k = 1; k < hall.many; k++) {
            if (differences[k] < differences[which]) {
                which = k;
            }
        }
        return what == 0 ? which : differences[which];
    }

    public int fee() {
        Text law = hall.standingText(FEE);
        return law == null ? hall.swept : law.gives(hall.swept, hall.blown, 0);
    }

    public int fine(int surface) {
        if (!isSurface(surface)) {
            return BAD;
        }
        Surface it = hall.surfaces[surface];
        Text law = hall.standingText(FINE);
        return law == null ? it.many : law.gives(it.many, it.pressed, 0);
    }

    // ---- texts

    public int feed(int a, int b, int c) {
        if (tape.many + 12 > MOST_BYTES) {
            return FULL;
        }
        tape.addBytes(a);
        tape.addBytes(b);
        tape.addBytes(c);
        return tape.many;
    }

    public int trim(int n) {
        if (n < 0 || n > tape.many) {
            return BAD;
        }
        tape.many = n;
        return n;
    }

    public int text() {
        boolean right = grammar.parseTape();
        tape.many = 0;
        if (!right) {
            return -100 - grammar.start;
        }
        if (hall.textCount >= MOST_TEXTS) {
            return FULL;
        }
        return hall.addText(grammar.makeText());
    }

    public int textTold(int text, int what) {
        if (!isBelow(text, hall.textCount) || !isBelow(what, 2)) {
            return BAD;
        }
        Text it = hall.texts[text];
        if (it == null) {
            return BAD;
        }
        return what == 0 ? it.key : it.atoms;
    }

    public int why(int key) {
        if (!isBelow(key, KEYS)) {
            return BAD;
        }
        return hall.standing[key] < 0 ? NONE : hall.standing[key];
    }

    // ---- sheets, slots

    public int sheet(int sheet, int sort, int n) {
        if (!isBelow(sheet, SHEETS) || sort < MISSING || sort > FLOATS) {
            return BAD;
        }
        if (sort == MISSING) {
            sheets[sheet].begin(MISSING, 0);
            return 0;
        }
        if (n > MOST_PLACES) {
            return BAD;
        }
        if (n < 0) {
            return SIZE;
        }
        sheets[sheet].begin(sort, n);
        return n;
    }

    public int mark(int sheet, int place, int v) {
        if (!isBelow(sheet, SHEETS)) {
            return BAD;
        }
        Sheet it = sheets[sheet];
        if (it.sort == MISSING) {
            return NOTHING;
        }
        if (!isBelow(place, it.many)) {
            return INDEX;
        }
        if (it.sort == SHORTS) {
            if (v == NONE) {
                return KIND;
            }
            it.places[place] = (short) v;
            return 1;
        }
        if (v != NONE && (v < -MOST_FLOAT || v > MOST_FLOAT)) {
            return BAD;
        }
        it.places[place] = v;
        return 1;
    }

    public int pour(int sheet) {
        int refusal = sheetRefusal(sheet);
        if (refusal != 0) {
            return refusal;
        }
        Sheet it = sheets[sheet];
        int otherwise = 0;
        int reach = Math.min(hall.many, it.many);
        for (int k = 0; k < reach; k++) {
            if (it.isNumber(k)) {
                int damp = within(it.places[k], 0, MOST_DAMP);
                if (damp != hall.surfaces[k].damp) {
                    hall.surfaces[k].damp = damp;
                    otherwise++;
                }
            }
        }
        return otherwise;
    }

    public int reads(int sheet) {
        int refusal = sheetRefusal(sheet);
        if (refusal != 0) {
            return refusal;
        }
        Sheet it = sheets[sheet];
        for (int k = 0; k < it.many; k++) {
            if (it.isNumber(k) && (!isSurface(k) || it.places[k] != hall.surfaces[k].many)) {
                return k;
            }
        }
        return NONE;
    }

    public int copy(int from, int place, int to, int at, int many) {
        if (!isBelow(from, SHEETS) || !isBelow(to, SHEETS)) {
            return BAD;
        }
        Sheet source = sheets[from];
        Sheet target = sheets[to];
        if (source.sort == MISSING || target.sort == MISSING) {
            return NOTHING;
        }
        if (source.sort != target.sort) {
            return KIND;
        }
        if (!source.hasPlaces(place, many) || !target.hasPlaces(at, many)) {
            return INDEX;
        }
        System.arraycopy(source.places, place, target.places, at, many);
        return many;
    }

    public int lay(int slot, int thing, int k) {
        if (!isBelow(slot, SLOTS) || !isBelow(thing, 4)) {
            return BAD;
        }
        if (thing == HOLDS_SURFACE && !isSurface(k)) {
            return BAD;
        }
        if (thing == HOLDS_SHEET) {
            int refusal = sheetRefusal(k);
            if (refusal != 0) {
                return refusal;
            }
        }
        Slot it = slots[slot];
        int held = it.thing;
        it.thing = thing;
        if (thing == HOLDS_SURFACE) {
            it.surface.become(hall.surfaces[k]);
        } else if (thing == HOLDS_SHEET) {
            it.sheet.become(sheets[k]);
        } else {
            it.number = k;
        }
        return held;
    }

    public int ask(int slot, int kind) {
        if (!isBelow(slot, SLOTS) || !isBelow(kind, KINDS)) {
            return BAD;
        }
        Slot it = slots[slot];
        int refusal = it.refusalAs(HOLDS_SURFACE);
        if (refusal != 0) {
            return refusal;
        }
        return it.surface.isOf(kind) ? it.surface.worth() : KIND;
    }

    public int item(int slot, int place) {
        if (!isBelow(slot, SLOTS)) {
            return BAD;
        }
        Slot it = slots[slot];
        int refusal = it.refusalAs(HOLDS_SHEET);
        if (refusal != 0) {
            return refusal;
        }
        if (!isBelow(place, it.sheet.many)) {
            return INDEX;
        }
        return it.sheet.isNumber(place) ? it.sheet.places[place] : KIND;
    }

    public int rest(int slot, int n) {
        if (!isBelow(slot, SLOTS)) {
            return BAD;
        }
        Slot it = slots[slot];
        int refusal = it.refusalAs(HOLDS_NUMBER);
        if (refusal != 0) {
            return refusal;
        }
        return n == 0 ? NO : it.number % n;
    }

    // ---- rows, images

    public int tell(int v) {
        if (waits >= MOST_WAITING) {
            return FULL;
        }
        waiting[waits] = v;
        waits++;
        return waits;
    }

    public int check(int n) {
        int told = waits;
        waits = 0;
        if (n < 1 || n > 30) {
            return BAD;
        }
        if (!imaged) {
            return NO;
        }
        thought.become(image);
        int reach = Math.min(n, LAST_DAY - image.day);
        int right = 0;
        for (int k = 0; k < reach; k++) {
            thought.passDay();
            if (right >= told || waiting[right] != thought.swept) {
                return 1 + right;
            }
            right++;
            if (right >= told || waiting[right] != thought.allLayers()) {
                return 1 + right;
            }
            right++;
        }
        return right == told ? 0 : 1 + right;
    }

    public int keep() {
        image.become(hall);
        imaged = true;
        return image.many;
    }

    public int back() {
        if (!imaged) {
            return NO;
        }
        hall.become(image);
        return hall.many;
    }

    public int count(int what) {
        switch (what) {
            case 0: return hall.many;
            case 1: return hall.day;
            case 2: return hall.broom;
            case 3: return hall.draught;
            case 4: return hall.textCount;
            case 5: return waits;
            case 6: return tape.many;
            case 7: return hall.z;
            default: return BAD;
        }
    }

    private static boolean isBelow(int v, int bound) {
        return v >= 0 && v < bound;
    }

    private static int within(int v, int least, int most) {
        return Math.max(least, Math.min(most, v));
    }

    private boolean isSurface(int surface) {
        return isBelow(surface, hall.many);
    }

    /** Why a sheet can't be used; 0: it can. */
    private int sheetRefusal(int sheet) {
        if (!isBelow(sheet, SHEETS)) {
            return BAD;
        }
        return sheets[sheet].sort == MISSING ? NOTHING : 0;
    }

    /** Why a sheet does not tell a row of deeds; 0: it does. */
    private int rowRefusal(int sheet) {
        int refusal = sheetRefusal(sheet);
        if (refusal != 0) {
            return refusal;
        }
        return sheets[sheet].tellsDeeds() ? 0 : SIZE;
    }

    private int rowRefusal(int sheet, int surface) {
        return isSurface(surface) ? rowRefusal(sheet) : BAD;
    }

    private int commonWithAllOthers(int surface) {
        int lengths = 0;
        for (int k = 0; k < hall.many; k++) {
            if (k != surface) {
                lengths += readings.commonLength(hall.surfaces[surface], hall.surfaces[k]);
            }
        }
        return lengths;
    }

    private static final class Surface {
        int kind;
        int damp;
        int many;
        int pressed;
        final int[] deeds = new int[MOST_LAYERS];

        void begin(int newKind, int newDamp) {
            kind = newKind;
            damp = newDamp;
            many = 0;
            pressed = 0;
        }

        void become(Surface other) {
            kind = other.kind;
            damp = other.damp;
            many = other.many;
            pressed = other.pressed;
            System.arraycopy(other.deeds, 0, deeds, 0, MOST_LAYERS);
        }

        void settle(int deed) {
            if (many >= MOST_LAYERS) {
                System.arraycopy(deeds, 1, deeds, 0, MOST_LAYERS - 1);
                many = MOST_LAYERS - 1;
                pressed++;
            }
            deeds[many] = deed;
            many++;
        }

        void settleRow(Sheet row) {
            for (int k = 0; k < row.many; k++) {
                settle(row.places[k]);
            }
        }

        /** Takes as many of the newest layers as are wanted and there: how many are gone. */
        int takeNewest(int wanted) {
            int taken = Math.max(0, Math.min(wanted, many));
            many -= taken;
            return taken;
        }

        int liftOut(int k) {
            if (!isBelow(k, many)) {
                return NONE;
            }
            int deed = deeds[k];
            System.arraycopy(deeds, k + 1, deeds, k, many - k - 1);
            many--;
            return deed;
        }

        boolean isOf(int wanted) {
            int up = kind;
            for (int k = 0; k < KINDS && isBelow(up, KINDS); k++) {
                if (up == wanted) {
                    return true;
                }
                up = ABOVE[up];
            }
            return false;
        }

        boolean catches(int deed, int day) {
            switch (kind) {
                case LINTEL: return deed >= 3;
                case ARCHIVE: return deed >= 3 || deed == 0;
                case TABLE: return (deed + day) % 3 != 0;
                case CLOTH: return damp >= 3 && (deed + day) % 3 != 0;
                default: return true;
            }
        }

        int caughtSet(int day) {
            int set = 0;
            for (int deed = 0; deed < DEEDS; deed++) {
                if (catches(deed, day)) {
                    set |= 1 << deed;
                }
            }
            return set;
        }

        /** How many layers a broom takes, where it takes so many from a shelf. */
        int broomTakes(int fromShelf) {
            switch (kind) {
                case LINTEL: return Math.max(0, fromShelf - 1);
                case TABLE: return 2 * fromShelf;
                case CLOTH: return 2 * fromShelf + 1;
                case ARCHIVE:
                case TOP: return 0;
                default: return fromShelf;
            }
        }

        int worth() {
            switch (kind) {
                case LINTEL: return many + 4;
                case ARCHIVE: return 2 * (many + 4);
                case TABLE: return 24 - many;
                case CLOTH: return 24 - many - 3;
                case TOP: return 7;
                default: return many;
            }
        }

        /** How many places of a row, from the first on, lie here. */
        int readable(Sheet row) {
            int read = 0;
            for (int k = 0; k < many && read < row.many; k++) {
                if (deeds[k] == row.places[read]) {
                    read++;
                }
            }
            return read;
        }

        boolean bears(Sheet row) {
            return readable(row) == row.many;
        }

        /** The first layer of a deed from a place on; -1: there is none. */
        int nextOf(int deed, int from) {
            for (int k = from; k < many; k++) {
                if (deeds[k] == deed) {
                    return k;
                }
            }
            return -1;
        }
    }

    private static final class Hall {
        final Surface[] surfaces = new Surface[MOST_SURFACES];
        int many;
        int broom = 20;
        int draught = 10;
        int swept;
        int blown;
        int day;
        int z = 1;
        final Text[] texts;
        int textCount;
        /** The text that counts for each key; -1: none does. */
        final int[] standing = {-1, -1, -1};

        Hall(Text[] sharedTexts) {
            texts = sharedTexts;
            for (int k = 0; k < MOST_SURFACES; k++) {
                surfaces[k] = new Surface();
            }
        }

        void become(Hall other) {
            many = other.many;
            for (int k = 0; k < many; k++) {
                surfaces[k].become(other.surfaces[k]);
            }
            broom = other.broom;
            draught = other.draught;
            swept = other.swept;
            blown = other.blown;
            day = other.day;
            z = other.z;
            textCount = other.textCount;
            System.arraycopy(other.standing, 0, standing, 0, KEYS);
        }

        int addSurface(int kind, int damp) {
            if (many >= MOST_SURFACES) {
                return FULL;
            }
            surfaces[many].begin(kind, damp);
            many++;
            return many - 1;
        }

        int addText(Text made) {
            if (textCount >= MOST_TEXTS) {
                return FULL;
            }
            texts[textCount] = made;
            standing[made.key] = textCount;
            textCount++;
            return textCount - 1;
        }

        /** The text that counts for a key; null: there is none. */
        Text standingText(int key) {
            int number = standing[key];
            return number >= 0 && number < textCount ? texts[number] : null;
        }

        int draw() {
            z = z * 1103515245 + 12345;
            return z >>> 8;
        }

        void passDays(int n) {
            for (int k = 0; k < n; k++) {
                passDay();
            }
        }

        void passDay() {
            settleWhereCaught(draw() % DEEDS);
            if (draw() % 100 < broom && many > 0) {
                sweep(surfaces[draw() % many]);
            }
            if (draw() % 100 < draught && many > 1) {
                blowFrom(draw() % many);
            }
            day++;
        }

        private void settleWhereCaught(int deed) {
            for (int k = 0; k < many; k++) {
                if (surfaces[k].catches(deed, day)) {
                    surfaces[k].settle(deed);
                }
            }
        }

        private void blowFrom(int one) {
            Surface from = surfaces[one];
            if (from.many == 0) {
                return;
            }
            from.many--;
            int next = one + 1 < many ? one + 1 : 0;
            surfaces[next].settle(from.deeds[from.many]);
            blown++;
        }

        int sweep(Surface it) {
            int taken = it.takeNewest(broomTakesFrom(it));
            swept += taken;
            return taken;
        }

        int broomTakesFrom(Surface it) {
            Text law = standingText(LIFT);
            int fromShelf = law == null ? 2 : within(law.gives(it.many, it.damp, day), 0, MOST_LAYERS);
            return it.broomTakes(fromShelf);
        }

        int allPressed() {
            int all = 0;
            for (int k = 0; k < many; k++) {
                all += surfaces[k].pressed;
            }
            return all;
        }

        int allLayers() {
            int all = 0;
            for (int k = 0; k < many; k++) {
                all += surfaces[k].many;
            }
            return all;
        }

        int bareSet() {
            int set = 0;
            for (int k = 0; k < many; k++) {
                if (surfaces[k].many == 0) {
                    set |= 1 << k;
                }
            }
            return set;
        }

        /** Behind how many days a row first does not lie on a surface; one above the farthest: not by then. */
        int dayRowIsGone(Sheet row, Surface it) {
            for (int k = 0; k <= FARTHEST_DAY; k++) {
                if (!it.bears(row)) {
                    return k;
                }
                passDay();
            }
            return FARTHEST_DAY + 1;
        }

        /** How far each surface's layers, day by day, are from the numbers of a sheet. */
        void addDifferences(Sheet told, int[] differences) {
            Arrays.fill(differences, 0);
            for (int k = 0; k < told.many; k++) {
                if (told.isNumber(k)) {
                    for (int s = 0; s < many; s++) {
                        differences[s] += Math.abs(surfaces[s].many - told.places[k]);
                    }
                }
                passDay();
            }
        }
    }

    private static final class Sheet {
        int sort = MISSING;
        int many;
        /** Numbers of either sort; NONE, which is none of them, stands for NO NUMBER. */
        final int[] places = new int[MOST_PLACES];

        void begin(int newSort, int n) {
            sort = newSort;
            many = n;
            Arrays.fill(places, 0);
        }

        void become(Sheet other) {
            sort = other.sort;
            many = other.many;
            System.arraycopy(other.places, 0, places, 0, MOST_PLACES);
        }

        boolean isNumber(int place) {
            return places[place] != NONE;
        }

        boolean tellsDeeds() {
            for (int k = 0; k < many; k++) {
                if (!isBelow(places[k], DEEDS)) {
                    return false;
                }
            }
            return true;
        }

        boolean hasPlaces(int from, int n) {
            return from >= 0 && n >= 0 && n <= many && from <= many - n;
        }
    }

    private static final class Slot {
        int thing = HOLDS_NOTHING;
        final Surface surface = new Surface();
        final Sheet sheet = new Sheet();
        int number;

        /** Why what is held can't be used as a thing; 0: it can. */
        int refusalAs(int wanted) {
            if (thing == HOLDS_NOTHING) {
                return NOTHING;
            }
            return thing == wanted ? 0 : KIND;
        }
    }

    /** What is compared between surfaces and rows, with the room that it takes. */
    private static final class Readings {
        /** The longest common row of what two surfaces have from two layers on. */
        final int[][] longest = new int[MOST_LAYERS + 1][MOST_LAYERS + 1];
        final int[] common = new int[MOST_LAYERS];
        final int[] fewest = new int[MOST_PLACES + 1];
        final int[] differences = new int[MOST_SURFACES];

        int commonLength(Surface one, Surface other) {
            Arrays.fill(longest[one.many], 0);
            for (int i = one.many - 1; i >= 0; i--) {
                longest[i][other.many] = 0;
                for (int j = other.many - 1; j >= 0; j--) {
                    longest[i][j] = one.deeds[i] == other.deeds[j]
                            ? 1 + longest[i + 1][j + 1]
                            : Math.max(longest[i + 1][j], longest[i][j + 1]);
                }
            }
            return longest[0][0];
        }

        /** Puts the first of the longest common rows into common: its length. */
        int findCommon(Surface one, Surface other) {
            int length = commonLength(one, other);
            int i = 0;
            int j = 0;
            for (int place = 0; place < length; place++) {
                int deed = leastDeedThatKeeps(length - place - 1, one, i, other, j);
                if (deed < 0) {
                    return place;
                }
                common[place] = deed;
                i = one.nextOf(deed, i) + 1;
                j = other.nextOf(deed, j) + 1;
            }
            return length;
        }

        /** The least deed behind whose next layers a common row of a length is left; -1: none. */
        private int leastDeedThatKeeps(int left, Surface one, int i, Surface other, int j) {
            for (int deed = 0; deed < DEEDS; deed++) {
                int inOne = one.nextOf(deed, i);
                int inOther = other.nextOf(deed, j);
                if (inOne >= 0 && inOther >= 0 && longest[inOne + 1][inOther + 1] >= left) {
                    return deed;
                }
            }
            return -1;
        }

        /**
         * fewest[p] is how few layers must go so that of those looked at the first p places of the
         * row, and no more, can be read: a layer that tells the next place is left or goes.
         */
        int fewestToHide(Sheet row, Surface it) {
            Arrays.fill(fewest, MOST_LAYERS + 1);
            fewest[0] = 0;
            for (int k = 0; k < it.many; k++) {
                for (int p = row.many - 1; p >= 0; p--) {
                    if (row.places[p] == it.deeds[k]) {
                        fewest[p + 1] = Math.min(fewest[p + 1], fewest[p]);
                        fewest[p]++;
                    }
                }
            }
            int least = fewest[0];
            for (int p = 1; p < row.many; p++) {
                least = Math.min(least, fewest[p]);
            }
            return least;
        }
    }

    private static final class Tape {
        final int[] bytes = new int[MOST_BYTES];
        int many;

        void addBytes(int word) {
            for (int shift = 24; shift >= 0 && many < MOST_BYTES; shift -= 8) {
                bytes[many] = (word >>> shift) & 255;
                many++;
            }
        }
    }

    /** A law, as steps of a machine with a stack: a number, a name, or a sign that works on the topmost. */
    private static final class Text {
        static final int NAME = 10000, SIGN = 20000;

        final int key;
        final int atoms;
        private final int[] steps;
        private final int[] stack;

        Text(int itsKey, int itsAtoms, int[] itsSteps) {
            key = itsKey;
            atoms = itsAtoms;
            steps = itsSteps;
            stack = new int[itsSteps.length];
        }

        int gives(int first, int second, int third) {
            int top = 0;
            for (int k = 0; k < steps.length; k++) {
                int step = steps[k];
                if (step < NAME) {
                    stack[top] = step;
                    top++;
                } else if (step < SIGN) {
                    stack[top] = step == NAME ? first : step == NAME + 1 ? second : third;
                    top++;
                } else if (step == SIGN + '!' && top >= 1) {
                    stack[top - 1] = stack[top - 1] == 0 ? 1 : 0;
                } else if (top >= 2) {
                    top--;
                    stack[top - 1] = work(step - SIGN, stack[top - 1], stack[top]);
                }
            }
            return top > 0 ? stack[0] : 0;
        }

        private static int work(int sign, int a, int b) {
            switch (sign) {
                case '|': return a != 0 || b != 0 ? 1 : 0;
                case '&': return a != 0 && b != 0 ? 1 : 0;
                case '<': return a < b ? 1 : 0;
                case '=': return a == b ? 1 : 0;
                case '>': return a > b ? 1 : 0;
                case '+': return a + b;
                case '-': return a - b;
                case '*': return a * b;
                case '/': return b == 0 ? 0 : a / b;
                default: return 0;
            }
        }
    }

    /** Reads the tape word by word; where it fails, the word or sign that comes next is the fault. */
    private static final class Grammar {
        private static final int END = 0, LETTERS = 1, DIGITS = 2, OTHER = 3;
        private static final int TESTS = 2, PIECES = 5;

        private final Tape tape;
        private final int[] steps = new int[MOST_BYTES];
        private int length;
        private int atoms;
        private int key;
        int start;
        private int end;
        private int sort;

        Grammar(Tape itsTape) {
            tape = itsTape;
        }

        boolean parseTape() {
            length = 0;
            atoms = 0;
            end = 0;
            advance();
            key = keyHere();
            if (key < 0) {
                return false;
            }
            advance();
            return parseLevel(0, 0, 0) && sort == END;
        }

        Text makeText() {
            return new Text(key, atoms, Arrays.copyOf(steps, length));
        }

        /** Levels are OR, AND, TEST, SUM, TERM, the loosest first, and PIECE. */
        private boolean parseLevel(int level, int brackets, int nots) {
            if (level >= PIECES) {
                return parsePiece(brackets, nots);
            }
            if (!parseLevel(level + 1, brackets, nots)) {
                return false;
            }
            int most = level == TESTS ? 1 : MOST_BYTES;
            for (int k = 0; k < most && joins(level); k++) {
                int sign = tape.bytes[start];
                advance();
                if (!parseLevel(level + 1, brackets, nots)) {
                    return false;
                }
                addStep(Text.SIGN + sign);
            }
            return true;
        }

        private boolean parsePiece(int brackets, int nots) {
            if (isSign('!')) {
                if (nots >= MOST_NESTED) {
                    return false;
                }
                advance();
                if (!parsePiece(brackets, nots + 1)) {
                    return false;
                }
                addStep(Text.SIGN + '!');
                return true;
            }
            if (isSign('(')) {
                if (brackets >= MOST_NESTED) {
                    return false;
                }
                advance();
                if (!parseLevel(0, brackets + 1, nots) || !isSign(')')) {
                    return false;
                }
                advance();
                return true;
            }
            return parseAtom();
        }

        private boolean parseAtom() {
            int step = sort == DIGITS ? numberHere() : sort == LETTERS ? nameHere() : -1;
            if (step < 0) {
                return false;
            }
            addStep(step);
            atoms++;
            advance();
            return true;
        }

        /** -1: it has too many digits, or needs a blank ahead of it. */
        private int numberHere() {
            if (end - start > MOST_DIGITS || isGlued()) {
                return -1;
            }
            int number = 0;
            for (int k = start; k < end; k++) {
                number = 10 * number + tape.bytes[k] - '0';
            }
            return number;
        }

        /** -1: it is no name of this key, or needs a blank ahead of it. */
        private int nameHere() {
            if (end - start != 1 || isGlued()) {
                return -1;
            }
            String names = key == LIFT ? "ndt" : key == FEE ? "sb" : "np";
            int name = names.indexOf((char) tape.bytes[start]);
            return name < 0 ? -1 : Text.NAME + name;
        }

        private int keyHere() {
            return isWord("lift") ? LIFT : isWord("fee") ? FEE : isWord("fine") ? FINE : -1;
        }

        private boolean isWord(String word) {
            if (sort != LETTERS || end - start != word.length()) {
                return false;
            }
            for (int k = 0; k < word.length(); k++) {
                if (tape.bytes[start + k] != word.charAt(k)) {
                    return false;
                }
            }
            return true;
        }

        private boolean isSign(int sign) {
            return sort == OTHER && tape.bytes[start] == sign;
        }

        private boolean joins(int level) {
            switch (level) {
                case 0: return isSign('|');
                case 1: return isSign('&');
                case TESTS: return isSign('<') || isSign('=') || isSign('>');
                case 3: return isSign('+') || isSign('-');
                case 4: return isSign('*') || isSign('/');
                default: return false;
            }
        }

        /** Two words touch only where letters meet digits. */
        private boolean isGlued() {
            return start > 0 && sortOf(tape.bytes[start - 1]) != OTHER;
        }

        private void addStep(int step) {
            if (length < MOST_BYTES) {
                steps[length] = step;
                length++;
            }
        }

        private void advance() {
            start = end;
            while (start < tape.many && tape.bytes[start] == ' ') {
                start++;
            }
            end = start;
            if (start >= tape.many) {
                sort = END;
                return;
            }
            sort = sortOf(tape.bytes[start]);
            end++;
            while (sort != OTHER && end < tape.many && sortOf(tape.bytes[end]) == sort) {
                end++;
            }
        }

        private static int sortOf(int sign) {
            if (sign >= 'a' && sign <= 'z') {
                return LETTERS;
            }
            return sign >= '0' && sign <= '9' ? DIGITS : OTHER;
        }
    }
}
