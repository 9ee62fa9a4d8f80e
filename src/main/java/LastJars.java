import java.util.Arrays;

/**
 * A tobacconist of last things: JARS of kinds, DECIDERS who buy by the half ounce, and what can be
 * known of both. The document ../shared/DOC.md says what each call answers.
 */
public final class LastJars {
    public static final int UNKNOWN = -1, OUTSIDE = -2, STATE = -3, FULL = -4, NONE = -9;
    public static final long LOST = Long.MIN_VALUE;

    private static final int NO_FAULT = 0, NULL_FAULT = 1, CAST_FAULT = 2, INDEX_FAULT = 3, SIZE_FAULT = 4;
    private static final int LEAF = 0, TWIST = 1, PLUG = 2, KIND_COUNT = 3;
    private static final int KIND = 0, SURE = 1, FADE = 2, HALVES = 3, PRICE = 4, GREATEST = 5;
    private static final int NEED = 0, WHEN = 1, PURSE = 2, DECIDED = 3;
    private static final int MINUTE_COUNT = 10, DIGIT_COUNT = 10;
    private static final int MOST_JARS = 6, MOST_DECIDERS = 4, MOST_READINGS = 8, MOST_PURSE = 99;
    private static final int SHEET_COUNT = 4, MOST_CELLS = 60, LANE_COUNT = 3, BYTES = 0, SHORTS = 1;
    private static final int MOST_PAIRS = 20, HALVES_THEN = 10, PURSE_THEN = 20;

    private final Shop shop = new Shop();
    private final Sales sales = new Sales();
    private final Service service = new Service();
    private final Readings readings = new Readings();
    private final Teller teller = new Teller();
    private final Sheet[] sheets = new Sheet[SHEET_COUNT];
    private int latestFault = NO_FAULT;

    public LastJars() {
        for (int k = 0; k < SHEET_COUNT; k++) {
            sheets[k] = new Sheet();
        }
    }

    // ---- 1 the store

    public int store(int sheet, int lane, int i, int n) {
        Sheet row = sheetAt(sheet);
        if (row == null) {
            return refused(UNKNOWN);
        }
        if (!isBelow(lane, LANE_COUNT)) {
            return refused(OUTSIDE);
        }
        int found = row.faultOf(lane, i, n);
        if (found != NO_FAULT) {
            return failed(found);
        }
        latestFault = NO_FAULT;
        int wrong = Text.firstFault(row, i, n);
        if (wrong != NONE) {
            return -100 - wrong;
        }
        Text.fill(row, i, n, shop);
        readings.count = 0;
        return shop.jarCount;
    }

    public int ofJar(int j, int what) {
        Jar jar = shop.jarAt(j);
        return jar == null ? UNKNOWN : jar.part(what);
    }

    public int ofDecider(int b, int what) {
        Decider decider = shop.deciderAt(b);
        return decider == null ? UNKNOWN : decider.part(what);
    }

    public int cure(int j, int v) {
        return changeJar(j, SURE, v);
    }

    public int fetch(int j, int v) {
        return changeJar(j, HALVES, v);
    }

    public int price(int j, int v) {
        return changeJar(j, PRICE, v);
    }

    public int dread(int b, int v) {
        return changeDecider(b, NEED, v, DIGIT_COUNT);
    }

    public int pay(int b, int v) {
        return changeDecider(b, PURSE, v, MOST_PURSE + 1);
    }

    public int mark(int j, int t) {
        Jar jar = shop.jarAt(j);
        if (jar == null) {
            return UNKNOWN;
        }
        return isBelow(t, MINUTE_COUNT) ? jar.markIn(t) : OUTSIDE;
    }

    // ---- 2 blends, sales

    public int blend(int set, int t) {
        if (shop.isMissing()) {
            return STATE;
        }
        if (!shop.isBlend(set) || !isBelow(t, MINUTE_COUNT)) {
            return OUTSIDE;
        }
        return shop.markOf(set, t);
    }

    public int hold(int set, int v) {
        if (shop.isMissing()) {
            return STATE;
        }
        if (!shop.isBlend(set) || !isBelow(v, DIGIT_COUNT)) {
            return OUTSIDE;
        }
        return Blends.longest(shop, set, v);
    }

    public int sell(int b, int j) {
        Decider decider = shop.deciderAt(b);
        Jar jar = shop.jarAt(j);
        if (decider == null || jar == null) {
            return UNKNOWN;
        }
        if (jar.halves < 1 || jar.price > decider.purse) {
            return STATE;
        }
        jar.halves--;
        decider.purse -= jar.price;
        if (!decider.decidesBy(jar)) {
            return 0;
        }
        decider.decided++;
        return 1;
    }

    public int year(int sheet, int lane, int i, int n, int what) {
        Sheet row = sheetAt(sheet);
        if (row == null) {
            return refused(UNKNOWN);
        }
        if (!isBelow(lane, LANE_COUNT) || !isBelow(n, MOST_PAIRS + 1) || !Sales.isTold(what)) {
            return refused(OUTSIDE);
        }
        if (shop.isMissing()) {
            return refused(STATE);
        }
        int found = row.faultOf(lane, i, 2 * n);
        if (found != NO_FAULT) {
            return failed(found);
        }
        latestFault = NO_FAULT;
        if (!Sales.areAllThere(shop, row, i, n)) {
            return UNKNOWN;
        }
        sales.goThrough(shop, row, i, n);
        return sales.answer(shop, what);
    }

    // ---- 3 which to take

    public int mix(int b, int what) {
        Decider decider = shop.deciderAt(b);
        if (decider == null) {
            return UNKNOWN;
        }
        if (!isBelow(what, 2)) {
            return OUTSIDE;
        }
        int set = Blends.cheapest(shop, decider);
        return set == NONE || what == 1 ? set : shop.penceOf(set);
    }

    public int like(int j) {
        if (shop.jarAt(j) == null) {
            return UNKNOWN;
        }
        return Blends.alike(shop, j);
    }

    public int guess(int sheet, int lane, int i, int n, int what) {
        Sheet row = sheetAt(sheet);
        if (row == null) {
            return refused(UNKNOWN);
        }
        if (!isBelow(lane, LANE_COUNT) || !isBelow(n, MINUTE_COUNT + 1) || !isBelow(what, 3)) {
            return refused(OUTSIDE);
        }
        if (shop.isMissing()) {
            return refused(STATE);
        }
        int found = row.faultOf(lane, i, n);
        if (found != NO_FAULT) {
            return failed(found);
        }
        latestFault = NO_FAULT;
        switch (what) {
            case 0: return Guess.jars(shop, row, i, n);
            case 1: return Guess.howManyPairs(shop, row, i, n);
            default: return Guess.leastPair(shop, row, i, n);
        }
    }

    public int serve(int k) {
        if (k < -1 || k >= MOST_DECIDERS) {
            return OUTSIDE;
        }
        if (shop.isMissing()) {
            return STATE;
        }
        if (k == -1) {
            return service.howMany(shop);
        }
        service.choose(shop);
        return service.jarFor(shop, k);
    }

    public int dear(int j) {
        Jar jar = shop.jarAt(j);
        return jar == null ? UNKNOWN : service.dearest(shop, jar);
    }

    // ---- 4 how sure one was

    public int reading(int j, int t, int v) {
        if (shop.jarAt(j) == null) {
            return UNKNOWN;
        }
        if (!isBelow(t, MINUTE_COUNT) || !isBelow(v, DIGIT_COUNT)) {
            return OUTSIDE;
        }
        return readings.take(j, t, v);
    }

    public int back(int k) {
        if (k < 0 || k > readings.count) {
            return OUTSIDE;
        }
        readings.count -= k;
        return readings.count;
    }

    public int sures(int j) {
        return possible(j, SURE, DIGIT_COUNT);
    }

    public int fades(int j) {
        return possible(j, FADE, DIGIT_COUNT);
    }

    public int kinds(int j) {
        return possible(j, KIND, KIND_COUNT);
    }

    public long odds(int b, int which) {
        Decider decider = shop.deciderAt(b);
        if (decider == null || !isBelow(which, 2)) {
            return LOST;
        }
        int all = Blends.howManyStocked(shop);
        if (all == 0) {
            return which;
        }
        int good = Blends.howManyDeciding(shop, decider);
        int shared = Blends.greatestDivisor(good, all);
        return which == 0 ? good / shared : all / shared;
    }

    // ---- 5 sheets, parts

    public int sheet(int k, int lane, int n) {
        Sheet row = sheetAt(k);
        if (row == null) {
            return refused(UNKNOWN);
        }
        if (!isBelow(lane, LANE_COUNT) || n > MOST_CELLS) {
            return refused(OUTSIDE);
        }
        if (n < 0) {
            return failed(SIZE_FAULT);
        }
        latestFault = NO_FAULT;
        row.begin(lane, n);
        return 1;
    }

    public int lose(int k) {
        Sheet row = sheetAt(k);
        if (row == null) {
            return UNKNOWN;
        }
        int had = row.hasRow ? 1 : 0;
        row.hasRow = false;
        return had;
    }

    public int put(int k, int i, int v) {
        Sheet row = sheetAt(k);
        if (row == null) {
            return refused(UNKNOWN);
        }
        // Whatever LANE the row is of is the right one here.
        int found = row.faultOf(row.lane, i, 1);
        if (found != NO_FAULT) {
            return failed(found);
        }
        latestFault = NO_FAULT;
        row.change(i, v);
        return 1;
    }

    public long cell(int k, int i, int lane) {
        latestFault = NO_FAULT;
        Sheet row = sheetAt(k);
        if (row == null || !isBelow(lane, LANE_COUNT)) {
            return LOST;
        }
        latestFault = row.faultOf(lane, i, 1);
        return latestFault == NO_FAULT ? row.at(i) : LOST;
    }

    public int copy(int k, int i, int other, int j, int n) {
        Sheet from = sheetAt(k);
        Sheet to = sheetAt(other);
        if (from == null || to == null) {
            return refused(UNKNOWN);
        }
        if (!from.hasRow || !to.hasRow) {
            return failed(NULL_FAULT);
        }
        if (from.lane != to.lane) {
            return failed(CAST_FAULT);
        }
        if (!from.hasCells(i, n) || !to.hasCells(j, n)) {
            return failed(INDEX_FAULT);
        }
        latestFault = NO_FAULT;
        System.arraycopy(from.cells, i, to.cells, j, n);
        return n;
    }

    public int tell(int j) {
        Jar jar = shop.jarAt(j);
        if (jar == null) {
            return UNKNOWN;
        }
        switch (jar.kind) {
            case LEAF: return teller.tellLeaf(jar);
            case TWIST: return teller.tellTwist(jar);
            default: return teller.tellPlug(jar);
        }
    }

    public int sniff(int j) {
        Jar jar = shop.jarAt(j);
        if (jar == null) {
            return UNKNOWN;
        }
        return jar.kind == PLUG ? teller.sniffPlug() : teller.sniffLent(j);
    }

    public int as(int j, int kind) {
        Jar jar = shop.jarAt(j);
        if (jar == null) {
            return refused(UNKNOWN);
        }
        if (!isBelow(kind, KIND_COUNT)) {
            return refused(OUTSIDE);
        }
        // Each kind is one of every kind with a smaller number.
        if (jar.kind < kind) {
            return failed(CAST_FAULT);
        }
        latestFault = NO_FAULT;
        return 1;
    }

    public int trace() {
        return teller.left;
    }

    public int fault() {
        return latestFault;
    }

    public int many(int what) {
        switch (what) {
            case 0: return shop.jarCount;
            case 1: return shop.deciderCount;
            case 2: return shop.allHalves();
            case 3: return readings.count;
            default: return OUTSIDE;
        }
    }

    // ---- what the calls share

    private Sheet sheetAt(int k) {
        return isBelow(k, SHEET_COUNT) ? sheets[k] : null;
    }

    private int changeJar(int j, int what, int v) {
        Jar jar = shop.jarAt(j);
        if (jar == null) {
            return UNKNOWN;
        }
        if (!isBelow(v, DIGIT_COUNT)) {
            return OUTSIDE;
        }
        int was = jar.part(what);
        jar.become(what, v);
        return was;
    }

    private int changeDecider(int b, int what, int v, int end) {
        Decider decider = shop.deciderAt(b);
        if (decider == null) {
            return UNKNOWN;
        }
        if (!isBelow(v, end)) {
            return OUTSIDE;
        }
        int was = decider.part(what);
        decider.become(what, v);
        return was;
    }

    /** The set of what a part of a JAR may be; each is tried on the JAR itself, which then gets its own back. */
    private int possible(int j, int what, int end) {
        Jar jar = shop.jarAt(j);
        if (jar == null) {
            return UNKNOWN;
        }
        int now = jar.part(what);
        int set = 0;
        for (int v = 0; v < end; v++) {
            jar.become(what, v);
            set |= readings.areSo(shop) ? 1 << v : 0;
        }
        jar.become(what, now);
        return set;
    }

    /** A refused call that names FAULTS came to none of them. */
    private int refused(int why) {
        latestFault = NO_FAULT;
        return why;
    }

    private int failed(int found) {
        latestFault = found;
        return -10 - found;
    }

    private static boolean isBelow(int v, int end) {
        return v >= 0 && v < end;
    }

    static final class Jar {
        int kind, sure, fade, halves, price;

        int part(int what) {
            switch (what) {
                case KIND: return kind;
                case SURE: return sure;
                case FADE: return fade;
                case HALVES: return halves;
                case PRICE: return price;
                case GREATEST: return greatest();
                default: return OUTSIDE;
            }
        }

        void become(int what, int v) {
            switch (what) {
                case KIND: kind = v; break;
                case SURE: sure = v; break;
                case FADE: fade = v; break;
                case HALVES: halves = v; break;
                case PRICE: price = v; break;
                default: break;
            }
        }

        /** A TWIST, and so a PLUG, is where a LEAF was a MINUTE sooner. */
        int markIn(int minute) {
            int ahead = kind == LEAF ? minute : minute - 1;
            int whole = ahead < 0 ? 0 : Math.max(0, sure - fade * ahead);
            return kind == PLUG ? whole / 2 : whole;
        }

        private int greatest() {
            int most = 0;
            for (int t = 0; t < MINUTE_COUNT; t++) {
                most = Math.max(most, markIn(t));
            }
            return most;
        }
    }

    static final class Decider {
        int need, when, purse, decided;

        int part(int what) {
            switch (what) {
                case NEED: return need;
                case WHEN: return when;
                case PURSE: return purse;
                case DECIDED: return decided;
                default: return OUTSIDE;
            }
        }

        void become(int what, int v) {
            switch (what) {
                case NEED: need = v; break;
                case PURSE: purse = v; break;
                default: break;
            }
        }

        boolean decidesBy(Jar jar) {
            return jar.markIn(when) >= need;
        }
    }

    /** The STORE; without one there are no JARS and no DECIDERS. */
    static final class Shop {
        final Jar[] jars = new Jar[MOST_JARS];
        final Decider[] deciders = new Decider[MOST_DECIDERS];
        int jarCount, deciderCount;

        Shop() {
            for (int j = 0; j < MOST_JARS; j++) {
                jars[j] = new Jar();
            }
            for (int b = 0; b < MOST_DECIDERS; b++) {
                deciders[b] = new Decider();
            }
        }

        boolean isMissing() {
            return jarCount == 0;
        }

        Jar jarAt(int j) {
            return isBelow(j, jarCount) ? jars[j] : null;
        }

        Decider deciderAt(int b) {
            return isBelow(b, deciderCount) ? deciders[b] : null;
        }

        /** One more than the greatest set of JARS that there are. */
        int setsEnd() {
            return 1 << jarCount;
        }

        boolean isBlend(int set) {
            return set > 0 && set < setsEnd();
        }

        int markOf(int set, int minute) {
            int together = 0;
            int count = 0;
            for (int j = 0; j < jarCount; j++) {
                if ((set >> j & 1) == 1) {
                    together += jars[j].markIn(minute);
                    count++;
                }
            }
            return count == 0 ? 0 : together / count;
        }

        int penceOf(int set) {
            int pence = 0;
            for (int j = 0; j < jarCount; j++) {
                pence += (set >> j & 1) * jars[j].price;
            }
            return pence;
        }

        /** The set of JARS of which a half ounce is left. */
        int stocked() {
            int set = 0;
            for (int j = 0; j < jarCount; j++) {
                set |= jars[j].halves > 0 ? 1 << j : 0;
            }
            return set;
        }

        int allHalves() {
            int sum = 0;
            for (int j = 0; j < jarCount; j++) {
                sum += jars[j].halves;
            }
            return sum;
        }
    }

    /** Texts are looked through to their end first, so that one that is not taken changes nothing. */
    static final class Text {
        private static final int JAR_LENGTH = 6, DECIDER_LENGTH = 5;

        private Text() {
        }

        /** The place of the FIRST FAULT, or NONE. */
        static int firstFault(Sheet row, int i, int n) {
            if (n < 1 || row.at(i) != 't') {
                return 0;
            }
            int place = 1;
            for (int jars = 0; jars < MOST_JARS && startsWith(row, i, n, place, ';'); jars++) {
                int fits = fitting(row, i, n, place, JAR_LENGTH);
                if (fits < JAR_LENGTH) {
                    return place + fits;
                }
                place += JAR_LENGTH;
            }
            if (place == 1) {
                return place;
            }
            int firstDecider = place;
            for (int deciders = 0; deciders < MOST_DECIDERS && startsWith(row, i, n, place, ','); deciders++) {
                int fits = fitting(row, i, n, place, DECIDER_LENGTH);
                if (fits < DECIDER_LENGTH) {
                    return place + fits;
                }
                place += DECIDER_LENGTH;
            }
            return place == firstDecider || place < n ? place : NONE;
        }

        private static boolean startsWith(Sheet row, int i, int n, int place, char sign) {
            return place < n && row.at(i + place) == sign;
        }

        /** How many codes of the part that starts at a place are as they must be. */
        private static int fitting(Sheet row, int i, int n, int place, int length) {
            int fits = 1;
            if (length == JAR_LENGTH) {
                if (place + 1 >= n || kindOf(row.at(i + place + 1)) == NONE) {
                    return fits;
                }
                fits = 2;
            }
            while (fits < length && place + fits < n && isBelow(row.at(i + place + fits) - '0', DIGIT_COUNT)) {
                fits++;
            }
            return fits;
        }

        private static int kindOf(int code) {
            switch (code) {
                case 'l': return LEAF;
                case 'w': return TWIST;
                case 'p': return PLUG;
                default: return NONE;
            }
        }

        /** Takes a TEXT that has no FIRST FAULT. */
        static void fill(Sheet row, int i, int n, Shop shop) {
            int place = 1;
            shop.jarCount = 0;
            shop.deciderCount = 0;
            while (shop.jarCount < MOST_JARS && startsWith(row, i, n, place, ';')) {
                fillJar(row, i + place, shop.jars[shop.jarCount]);
                shop.jarCount++;
                place += JAR_LENGTH;
            }
            while (shop.deciderCount < MOST_DECIDERS && startsWith(row, i, n, place, ',')) {
                fillDecider(row, i + place, shop.deciders[shop.deciderCount]);
                shop.deciderCount++;
                place += DECIDER_LENGTH;
            }
        }

        private static void fillJar(Sheet row, int at, Jar jar) {
            jar.kind = kindOf(row.at(at + 1));
            jar.sure = row.at(at + 2) - '0';
            jar.fade = row.at(at + 3) - '0';
            jar.halves = row.at(at + 4) - '0';
            jar.price = row.at(at + 5) - '0';
        }

        private static void fillDecider(Sheet row, int at, Decider decider) {
            decider.need = row.at(at + 1) - '0';
            decider.when = row.at(at + 2) - '0';
            decider.purse = 10 * (row.at(at + 3) - '0') + row.at(at + 4) - '0';
            decider.decided = 0;
        }
    }

    /** A YEAR is gone through on rows of its own, since it changes nothing of the STORE. */
    static final class Sales {
        private final int[] halves = new int[MOST_JARS];
        private final int[] purses = new int[MOST_DECIDERS];
        private int firstWrong, decided, pence;

        static boolean isTold(int what) {
            return isBelow(what, 4) || isBelow(what - HALVES_THEN, MOST_JARS)
                || isBelow(what - PURSE_THEN, MOST_DECIDERS);
        }

        /** Pairs behind the FIRST WRONG count, too: only a row of DECIDERS and JARS is a YEAR at all. */
        static boolean areAllThere(Shop shop, Sheet row, int i, int n) {
            for (int pair = 0; pair < n; pair++) {
                if (buyerOf(shop, row, i, pair) == null || jarOf(shop, row, i, pair) == null) {
                    return false;
                }
            }
            return true;
        }

        private static Decider buyerOf(Shop shop, Sheet row, int i, int pair) {
            return shop.deciderAt(row.at(i + 2 * pair));
        }

        private static Jar jarOf(Shop shop, Sheet row, int i, int pair) {
            return shop.jarAt(row.at(i + 2 * pair + 1));
        }

        /** Goes through pairs that are all there, up to the FIRST WRONG. */
        void goThrough(Shop shop, Sheet row, int i, int n) {
            begin(shop);
            for (int pair = 0; pair < n && firstWrong == NONE; pair++) {
                Decider decider = buyerOf(shop, row, i, pair);
                Jar jar = jarOf(shop, row, i, pair);
                int b = row.at(i + 2 * pair);
                int j = row.at(i + 2 * pair + 1);
                if (decider == null || jar == null || halves[j] < 1 || jar.price > purses[b]) {
                    firstWrong = pair;
                } else {
                    halves[j]--;
                    purses[b] -= jar.price;
                    pence += jar.price;
                    decided += decider.decidesBy(jar) ? 1 : 0;
                }
            }
        }

        private void begin(Shop shop) {
            firstWrong = NONE;
            decided = 0;
            pence = 0;
            for (int j = 0; j < MOST_JARS; j++) {
                halves[j] = shop.jars[j].halves;
            }
            for (int b = 0; b < MOST_DECIDERS; b++) {
                purses[b] = shop.deciders[b].purse;
            }
        }

        int answer(Shop shop, int what) {
            if (what == 1) {
                return firstWrong;
            }
            if (firstWrong != NONE) {
                return -100 - firstWrong;
            }
            switch (what) {
                case 0: return decided;
                case 2: return pence;
                case 3: return emptied(shop);
                default: return what < PURSE_THEN
                    ? halvesThen(shop, what - HALVES_THEN) : purseThen(shop, what - PURSE_THEN);
            }
        }

        private int emptied(Shop shop) {
            int set = 0;
            for (int j = 0; j < shop.jarCount; j++) {
                set |= halves[j] == 0 ? 1 << j : 0;
            }
            return set;
        }

        private int halvesThen(Shop shop, int j) {
            return isBelow(j, shop.jarCount) ? halves[j] : NONE;
        }

        private int purseThen(Shop shop, int b) {
            return isBelow(b, shop.deciderCount) ? purses[b] : NONE;
        }
    }

    /** Sets are gone through from the least on, so that of several equals the least is kept. */
    static final class Blends {
        private Blends() {
        }

        static int longest(Shop shop, int set, int least) {
            int most = 0;
            int now = 0;
            for (int t = 0; t < MINUTE_COUNT; t++) {
                now = shop.markOf(set, t) >= least ? now + 1 : 0;
                most = Math.max(most, now);
            }
            return most;
        }

        static int cheapest(Shop shop, Decider decider) {
            int stocked = shop.stocked();
            int best = NONE;
            int bestPence = 0;
            for (int set = 1; set < shop.setsEnd(); set++) {
                int pence = shop.penceOf(set);
                boolean fits = (set & ~stocked) == 0 && pence <= decider.purse && decides(shop, decider, set);
                if (fits && (best == NONE || pence < bestPence
                        || pence == bestPence && Integer.bitCount(set) < Integer.bitCount(best))) {
                    best = set;
                    bestPence = pence;
                }
            }
            return best;
        }

        private static boolean decides(Shop shop, Decider decider, int set) {
            return shop.markOf(set, decider.when) >= decider.need;
        }

        static int alike(Shop shop, int j) {
            int best = NONE;
            for (int set = 1; set < shop.setsEnd(); set++) {
                boolean fewer = best == NONE || Integer.bitCount(set) < Integer.bitCount(best);
                if (fewer && (set >> j & 1) == 0 && isSameMarked(shop, set, 1 << j)) {
                    best = set;
                }
            }
            return best;
        }

        private static boolean isSameMarked(Shop shop, int set, int other) {
            for (int t = 0; t < MINUTE_COUNT; t++) {
                if (shop.markOf(set, t) != shop.markOf(other, t)) {
                    return false;
                }
            }
            return true;
        }

        static int howManyStocked(Shop shop) {
            return (1 << Integer.bitCount(shop.stocked())) - 1;
        }

        static int howManyDeciding(Shop shop, Decider decider) {
            int stocked = shop.stocked();
            int count = 0;
            for (int set = 1; set < shop.setsEnd(); set++) {
                count += (set & ~stocked) == 0 && decides(shop, decider, set) ? 1 : 0;
            }
            return count;
        }

        static int greatestDivisor(int upper, int lower) {
            for (int d = lower; d > 1; d--) {
                if (upper % d == 0 && lower % d == 0) {
                    return d;
                }
            }
            return 1;
        }
    }

    static final class Guess {
        private Guess() {
        }

        static int jars(Shop shop, Sheet row, int i, int n) {
            int set = 0;
            for (int j = 0; j < shop.jarCount; j++) {
                set |= hasMarks(shop, 1 << j, row, i, n) ? 1 << j : 0;
            }
            return set;
        }

        static int howManyPairs(Shop shop, Sheet row, int i, int n) {
            int count = 0;
            for (int set = 1; set < shop.setsEnd(); set++) {
                count += Integer.bitCount(set) == 2 && hasMarks(shop, set, row, i, n) ? 1 : 0;
            }
            return count;
        }

        static int leastPair(Shop shop, Sheet row, int i, int n) {
            for (int set = 1; set < shop.setsEnd(); set++) {
                if (Integer.bitCount(set) == 2 && hasMarks(shop, set, row, i, n)) {
                    return set;
                }
            }
            return NONE;
        }

        private static boolean hasMarks(Shop shop, int set, Sheet row, int i, int n) {
            for (int t = 0; t < n; t++) {
                if (shop.markOf(set, t) != row.at(i + t)) {
                    return false;
                }
            }
            return true;
        }
    }

    /** SERVE is found by asking, choice by choice, whether the most can still be reached behind it. */
    static final class Service {
        private final int[] left = new int[MOST_JARS];
        private final int[] chosen = new int[MOST_DECIDERS];

        int howMany(Shop shop) {
            begin(shop);
            return most(shop, left, 0);
        }

        /** What was chosen last. */
        int jarFor(Shop shop, int b) {
            return isBelow(b, shop.deciderCount) ? chosen[b] : NONE;
        }

        /** Tries PRICES on the JAR itself, which then gets its own back. */
        int dearest(Shop shop, Jar jar) {
            int now = jar.price;
            int enough = howMany(shop);
            int dearest = now;
            for (int v = DIGIT_COUNT - 1; v > now && dearest == now; v--) {
                jar.price = v;
                dearest = howMany(shop) >= enough ? v : now;
            }
            jar.price = now;
            return dearest;
        }

        private void begin(Shop shop) {
            for (int j = 0; j < MOST_JARS; j++) {
                left[j] = shop.jars[j].halves;
            }
        }

        /** How many of the DECIDERS from b on can decide by what is left; JARS by which they don't are no help. */
        private static int most(Shop shop, int[] left, int b) {
            if (!isBelow(b, shop.deciderCount)) {
                return 0;
            }
            Decider decider = shop.deciders[b];
            int best = most(shop, left, b + 1);
            for (int j = 0; j < shop.jarCount && best < shop.deciderCount - b; j++) {
                Jar jar = shop.jars[j];
                if (left[j] > 0 && jar.price <= decider.purse && decider.decidesBy(jar)) {
                    left[j]--;
                    best = Math.max(best, 1 + most(shop, left, b + 1));
                    left[j]++;
                }
            }
            return best;
        }

        void choose(Shop shop) {
            int open = howMany(shop);
            for (int b = 0; b < shop.deciderCount; b++) {
                chosen[b] = firstChoice(shop, b, open);
                Jar jar = shop.jarAt(chosen[b]);
                open -= jar != null && shop.deciders[b].decidesBy(jar) ? 1 : 0;
            }
        }

        /** Takes the first JAR for b with which as many as are still open decide from b on. */
        private int firstChoice(Shop shop, int b, int open) {
            Decider decider = shop.deciders[b];
            for (int j = 0; j < shop.jarCount; j++) {
                Jar jar = shop.jars[j];
                if (left[j] > 0 && jar.price <= decider.purse) {
                    int own = decider.decidesBy(jar) ? 1 : 0;
                    left[j]--;
                    if (own + most(shop, left, b + 1) == open) {
                        return j;
                    }
                    left[j]++;
                }
            }
            return NONE;
        }
    }

    static final class Readings {
        private final int[] jars = new int[MOST_READINGS];
        private final int[] minutes = new int[MOST_READINGS];
        private final int[] marks = new int[MOST_READINGS];
        int count;

        int take(int j, int t, int v) {
            if (count >= MOST_READINGS) {
                return FULL;
            }
            jars[count] = j;
            minutes[count] = t;
            marks[count] = v;
            count++;
            return count - 1;
        }

        boolean areSo(Shop shop) {
            for (int r = 0; r < count; r++) {
                Jar jar = shop.jarAt(jars[r]);
                if (jar == null || jar.markIn(minutes[r]) != marks[r]) {
                    return false;
                }
            }
            return true;
        }
    }

    /** A row of any LANE is kept in ints that are cut as they come in: the same row serves all its life. */
    static final class Sheet {
        final int[] cells = new int[MOST_CELLS];
        boolean hasRow;
        int lane, length;

        void begin(int newLane, int newLength) {
            hasRow = true;
            lane = newLane;
            length = newLength;
            Arrays.fill(cells, 0);
        }

        /** The first FAULT of n cells from i on, taken as a row of a LANE. */
        int faultOf(int asLane, int i, int n) {
            if (!hasRow) {
                return NULL_FAULT;
            }
            if (asLane != lane) {
                return CAST_FAULT;
            }
            if (n < 0) {
                return SIZE_FAULT;
            }
            return hasCells(i, n) ? NO_FAULT : INDEX_FAULT;
        }

        boolean hasCells(int i, int n) {
            return i >= 0 && i <= length && n >= 0 && n <= length - i;
        }

        int at(int i) {
            return isBelow(i, MOST_CELLS) ? cells[i] : 0;
        }

        void change(int i, int v) {
            if (isBelow(i, length)) {
                cells[i] = cut(v);
            }
        }

        private int cut(int v) {
            if (lane == BYTES) {
                return (byte) v;
            }
            return lane == SHORTS ? (short) v : v;
        }
    }

    /** The bodies of TELLING and SNIFFING; each leaves its number as it begins. */
    static final class Teller {
        int left;

        private void leave(int number) {
            left = 31 * left + number;
        }

        int tellLeaf(Jar jar) {
            leave(1);
            return jar.sure;
        }

        int tellTwist(Jar jar) {
            leave(2);
            return tellLeaf(jar) + 100;
        }

        int tellPlug(Jar jar) {
            leave(3);
            int asTwist = tellTwist(jar);
            return asTwist + tellLeaf(jar);
        }

        int sniffLent(int number) {
            leave(4);
            return number;
        }

        int sniffPlug() {
            leave(5);
            return 80;
        }
    }
}
