/** Years kept in a cave: a day down there is so much of a year up here. */
public final class CaveYears {
    public static final int NONE = -1, UNKNOWN = -1000000001, OUTSIDE = -1000000002, NOT = -1000000003, FULL = -1000000004;

    private static final int TEXT_ROOM = 500;
    private static final int PARTS_ROOM = 7;
    private static final int WAYS_ROOM = 12;
    private static final int PERSONS_ROOM = 6;
    private static final int WINTERS_ROOM = 5;
    private static final int DAYS_ROOM = 40;
    private static final int TRIALS_ROOM = 10;
    private static final int LINES_ROOM = 8;

    private static final int YEAR = 60;
    private static final int LAST_DATE = 9999999;
    private static final int LAST_DRIFT = 9990000;
    private static final int MOST_PASS = 9999;
    private static final int MOST_DRAWS = 99;
    private static final int MOST_SUM = 999999999;
    private static final int MOST_TIME = 6000;
    private static final int MOST_TRIED = 99999;
    private static final int MOST_LINE_DATE = 500;
    private static final int MOST_LINE_AGE = 200;

    private final char[] text = new char[TEXT_ROOM];
    private int textLength;
    private int faultAt;
    private Cave den;
    private Cave spareDen;
    private final Reader reader;
    private final Stay stay;
    private final Folk folk;
    private final Folk firstImage;
    private final Folk secondImage;
    private final Spans spans;
    private final ExactTimes exactTimes;
    private final Trials trials;
    private final Registers registers;

    public CaveYears() {
        textLength = 0;
        faultAt = NONE;
        den = new Cave();
        spareDen = new Cave();
        reader = new Reader();
        stay = new Stay();
        folk = new Folk();
        firstImage = new Folk();
        secondImage = new Folk();
        spans = new Spans();
        exactTimes = new ExactTimes();
        trials = new Trials();
        registers = new Registers();
    }

    // ---- the cave

    public int feed(int n, long bytes) {
        if (n < 1 || n > 8) {
            return OUTSIDE;
        }
        if (textLength < 0 || textLength + n > TEXT_ROOM) {
            return FULL;
        }
        for (int k = n - 1; k >= 0; k--) {
            text[textLength] = (char) ((bytes >>> (8 * k)) & 255L);
            textLength++;
        }
        return textLength;
    }

    public int cave() {
        reader.readAll(text, textLength, spareDen);
        textLength = 0;
        faultAt = reader.faultAt;
        if (reader.faultKind != 0) {
            return -10 - reader.faultKind;
        }
        Cave old = den;
        den = spareDen;
        spareDen = old;
        folk.startIn(den);
        firstImage.kept = false;
        secondImage.kept = false;
        stay.count = 0;
        trials.count = 0;
        registers.count = 0;
        return den.parts;
    }

    public int fault() {
        return faultAt;
    }

    public int told(int what) {
        switch (what) {
            case 0: return den.parts;
            case 1: return den.mouths;
            case 2: return den.persons;
            case 3: return den.interest;
            case 4: return den.winters;
            case 5: return textLength;
            case 6: return folk.date;
            case 7: return folk.downSet(den.persons);
            case 8: return stay.count;
            case 9: return stay.time(den);
            case 10: return trials.count;
            case 11: return registers.count;
            default: return OUTSIDE;
        }
    }

    public int part(int p, int what) {
        if (!den.hasPart(p)) {
            return UNKNOWN;
        }
        switch (what) {
            case 0: return den.rateOf(p);
            case 1: return den.near[p];
            case 2: return den.alikeSet(p);
            default: return OUTSIDE;
        }
    }

    public int person(int q, int what) {
        if (!den.hasPerson(q)) {
            return UNKNOWN;
        }
        switch (what) {
            case 0: return folk.age[q];
            case 1: return folk.riches[q];
            case 2: return folk.out[q];
            default: return OUTSIDE;
        }
    }

    // ---- stays

    public int spend(int p) {
        if (!den.hasPart(p)) {
            return UNKNOWN;
        }
        return stay.addDay(p);
    }

    public int forget() {
        int had = stay.count;
        stay.count = 0;
        return had;
    }

    public int judge() {
        return stay.wrongDay(den);
    }

    public int enter(int q) {
        if (!den.hasPerson(q)) {
            return UNKNOWN;
        }
        if (!folk.isUp(q) || stay.count == 0 || stay.wrongDay(den) != NONE) {
            return NOT;
        }
        folk.goIn(q, stay.count, stay.time(den));
        return folk.out[q];
    }

    public int pass(int n) {
        if (n < 1 || n > MOST_PASS) {
            return OUTSIDE;
        }
        if (folk.date + n > LAST_DATE) {
            return FULL;
        }
        folk.letPass(n, den);
        return folk.date;
    }

    public int drift(int n) {
        if (n < 1 || n > MOST_DRAWS) {
            return OUTSIDE;
        }
        if (den.parts == 0 || den.persons == 0) {
            return NOT;
        }
        if (folk.date > LAST_DRIFT) {
            return FULL;
        }
        for (int k = 0; k < n; k++) {
            folk.driftOnce(den);
        }
        return folk.date;
    }

    // ---- tried

    public int just(int from, int to, int t, boolean atLeast, int i) {
        if (!den.hasMouth(from) || !den.hasMouth(to)) {
            return UNKNOWN;
        }
        if (t < 0 || t > MOST_TIME) {
            return OUTSIDE;
        }
        int days = atLeast ? spans.daysReaching(den, from, to, t) : exactTimes.daysMaking(den, from, to, t);
        if (days == NONE || i == NONE) {
            return days;
        }
        if (i < 0 || i >= days) {
            return NONE;
        }
        return atLeast ? spans.partOfDay(den, from, t, days, i) : exactTimes.partOfDay(den, from, t, days, i);
    }

    public int span(int from, int to, int d, int what) {
        if (!den.hasMouth(from) || !den.hasMouth(to)) {
            return UNKNOWN;
        }
        if (!isDays(d) || what < 0 || what > 1) {
            return OUTSIDE;
        }
        spans.layDays(den, to, d);
        return what == 0 ? spans.leastTime(d, from) : spans.mostTime(d, from);
    }

    public int longest(int d, int what) {
        if (!isDays(d) || what < 0 || what > 1) {
            return OUTSIDE;
        }
        int best = NONE;
        int bestTime = NONE;
        for (int p = 0; p < PARTS_ROOM; p++) {
            if (den.hasMouth(p)) {
                spans.layDays(den, p, d);
                int time = spans.mostTime(d, p);
                if (time > bestTime) {
                    best = p;
                    bestTime = time;
                }
            }
        }
        return what == 0 ? best : bestTime;
    }

    public int meeting(int q, int r, int what) {
        if (!den.hasPerson(q) || !den.hasPerson(r) || q == r) {
            return UNKNOWN;
        }
        int when = folk.meetingDate(q, r);
        switch (what) {
            case 0: return when;
            case 1: return folk.ageAt(q, when);
            case 2: return folk.ageAt(r, when);
            default: return OUTSIDE;
        }
    }

    public int sum(int q, int date) {
        if (!den.hasPerson(q)) {
            return UNKNOWN;
        }
        if (date < folk.date || date > LAST_DATE) {
            return OUTSIDE;
        }
        return folk.richesAt(q, date, den.interest);
    }

    public int sitOut(int p) {
        if (!den.hasMouth(p)) {
            return UNKNOWN;
        }
        int end = den.lastWinterEnd(folk.date);
        if (end == NONE) {
            return 0;
        }
        return spans.daysReaching(den, p, p, end - folk.date);
    }

    // ---- what came out how

    public int tryOut(int d, int t) {
        if (!isDays(d) || t < 0 || t > MOST_TRIED) {
            return OUTSIDE;
        }
        return trials.add(d, t);
    }

    public int fits() {
        return trials.fittingSet(den);
    }

    // ---- registers

    public int line(int date, int age) {
        if (date < 0 || date > MOST_LINE_DATE || age < 0 || age > MOST_LINE_AGE) {
            return OUTSIDE;
        }
        return registers.add(date, age);
    }

    public int canBeOne(int a, int b) {
        if (!registers.has(a) || !registers.has(b) || a == b) {
            return OUTSIDE;
        }
        return registers.agree(a, b) ? 1 : 0;
    }

    public int fewest(int i) {
        if (i != NONE && !registers.has(i)) {
            return OUTSIDE;
        }
        int men = registers.leastMen();
        return i == NONE ? men : registers.man[i];
    }

    public int tear() {
        int had = trials.count + registers.count;
        trials.count = 0;
        registers.count = 0;
        return had;
    }

    // ---- draws, images

    public int seed(int v) {
        if (v < 0) {
            return OUTSIDE;
        }
        int was = folk.drawSeed;
        folk.drawSeed = v;
        return was;
    }

    public int keep(int i) {
        if (i < 0 || i > 1) {
            return UNKNOWN;
        }
        Folk image = i == 0 ? firstImage : secondImage;
        image.copyFrom(folk);
        image.kept = true;
        return 1;
    }

    public int goBack(int i) {
        if (i < 0 || i > 1) {
            return UNKNOWN;
        }
        Folk image = i == 0 ? firstImage : secondImage;
        if (!image.kept) {
            return NOT;
        }
        folk.copyFrom(image);
        return 1;
    }

    private static boolean isDays(int d) {
        return d >= 1 && d <= DAYS_ROOM;
    }

    /** What a text tells: nothing in it changes once it is read. */
    private static final class Cave {
        int parts;
        int mouths;
        int ways;
        int persons;
        int interest;
        boolean interestTold;
        int winters;
        final int[] rate = new int[PARTS_ROOM];
        final int[] near = new int[PARTS_ROOM];
        final int[] firstAge = new int[PERSONS_ROOM];
        final int[] firstRiches = new int[PERSONS_ROOM];
        final int[] winterStart = new int[WINTERS_ROOM];
        final int[] winterEnd = new int[WINTERS_ROOM];

        void clear() {
            parts = 0;
            mouths = 0;
            ways = 0;
            persons = 0;
            interest = 0;
            interestTold = false;
            winters = 0;
        }

        boolean hasPart(int p) {
            return p >= 0 && p < parts && p < PARTS_ROOM;
        }

        boolean hasMouth(int p) {
            return hasPart(p) && (mouths >> p & 1) == 1;
        }

        boolean hasWay(int p, int q) {
            return hasPart(p) && hasPart(q) && (near[p] >> q & 1) == 1;
        }

        boolean hasPerson(int q) {
            return q >= 0 && q < persons && q < PERSONS_ROOM;
        }

        /** Whether a day in q may come right behind a day in p. */
        boolean mayFollow(int p, int q) {
            return hasPart(p) && p == q || hasWay(p, q);
        }

        int rateOf(int p) {
            return hasPart(p) ? rate[p] : 0;
        }

        int alikeSet(int p) {
            int set = 0;
            for (int q = 0; q < PARTS_ROOM; q++) {
                if (q != p && hasPart(q) && rate[q] == rateOf(p)) {
                    set |= 1 << q;
                }
            }
            return set;
        }

        /** The last end of the winters that begin at a date or later; NONE if there are none. */
        int lastWinterEnd(int date) {
            int end = NONE;
            for (int w = 0; w < winters && w < WINTERS_ROOM; w++) {
                if (winterStart[w] >= date) {
                    end = Math.max(end, winterEnd[w]);
                }
            }
            return end;
        }

        void addPart(int years, int days) {
            if (parts >= 0 && parts < PARTS_ROOM && days > 0) {
                rate[parts] = YEAR * years / days;
                near[parts] = 0;
                parts++;
            }
        }

        void addMouth(int p) {
            if (hasPart(p)) {
                mouths |= 1 << p;
            }
        }

        void addWay(int p, int q) {
            if (hasPart(p) && hasPart(q)) {
                near[p] |= 1 << q;
                near[q] |= 1 << p;
                ways++;
            }
        }

        void addPerson(int years, int amount) {
            if (persons >= 0 && persons < PERSONS_ROOM) {
                firstAge[persons] = YEAR * years;
                firstRiches[persons] = amount;
                persons++;
            }
        }

        void setInterest(int percent) {
            interest = percent;
            interestTold = true;
        }

        void addWinter(int from, int years) {
            if (winters >= 0 && winters < WINTERS_ROOM) {
                winterStart[winters] = YEAR * from;
                winterEnd[winters] = YEAR * (from + years);
                winters++;
            }
        }
    }

    /** Reads a text from left to right up to its first fault. */
    private static final class Reader {
        private static final int NO_CLAUSE = 0, PART = 1, MOUTH = 2, WAY = 3, PERSON = 4, INTEREST = 5, WINTER = 6;

        int faultKind;
        int faultAt;
        private int at;
        private int length;
        private int numberAt;

        void readAll(char[] text, int textLength, Cave into) {
            faultKind = 0;
            faultAt = NONE;
            at = 0;
            length = Math.min(textLength, text.length);
            into.clear();
            skipBlanks(text);
            // Each clause takes a byte at least, so the text's length bounds the clauses.
            for (int k = 0; k < length && at < length && faultKind == 0; k++) {
                readClause(text, into);
                skipBlanks(text);
            }
        }

        private void readClause(char[] text, Cave into) {
            int end = wordEnd(text);
            int clause = clauseOf(text, at, end);
            if (clause == NO_CLAUSE) {
                setFault(1, at);
                return;
            }
            if (isFull(clause, into)) {
                setFault(3, at);
                return;
            }
            at = end;
            int first = readNumber(text, lowest(clause, false), highest(clause, false, into));
            if (faultKind == 0 && clause == MOUTH && into.hasMouth(first)) {
                setFault(4, numberAt);
            }
            int second = 0;
            if (faultKind == 0 && clause != MOUTH && clause != INTEREST) {
                second = readNumber(text, lowest(clause, true), highest(clause, true, into));
            }
            if (faultKind == 0 && clause == WAY && (first == second || into.hasWay(first, second))) {
                setFault(4, numberAt);
            }
            if (faultKind == 0) {
                readEnd(text);
            }
            if (faultKind == 0) {
                addClause(clause, first, second, into);
            }
        }

        /** A number from low to high; where there is none, the fault is set. */
        private int readNumber(char[] text, int low, int high) {
            skipBlanks(text);
            numberAt = at;
            int value = 0;
            for (int k = at; k < length && k >= 0 && k < text.length && text[k] >= '0' && text[k] <= '9'; k++) {
                // Four figures are one too many: what comes behind them can't change that, nor may it overflow.
                if (at - numberAt < 4) {
                    value = 10 * value + (text[k] - '0');
                }
                at++;
            }
            if (at == numberAt) {
                setFault(1, numberAt);
            } else if (at - numberAt > 3 || value < low || value > high) {
                setFault(2, numberAt);
            }
            return value;
        }

        private void readEnd(char[] text) {
            skipBlanks(text);
            if (at >= 0 && at < length && at < text.length && text[at] == ';') {
                at++;
            } else {
                setFault(1, at);
            }
        }

        private void skipBlanks(char[] text) {
            for (int k = at; k < length && k >= 0 && k < text.length && text[k] == ' '; k++) {
                at++;
            }
        }

        private int wordEnd(char[] text) {
            int end = at;
            for (int k = at; k < length && k >= 0 && k < text.length && text[k] >= 'a' && text[k] <= 'z'; k++) {
                end++;
            }
            return end;
        }

        private void setFault(int kind, int place) {
            faultKind = kind;
            faultAt = place;
        }

        private static int clauseOf(char[] text, int from, int end) {
            if (spells(text, from, end, "part")) {
                return PART;
            }
            if (spells(text, from, end, "mouth")) {
                return MOUTH;
            }
            if (spells(text, from, end, "way")) {
                return WAY;
            }
            if (spells(text, from, end, "person")) {
                return PERSON;
            }
            if (spells(text, from, end, "interest")) {
                return INTEREST;
            }
            return spells(text, from, end, "winter") ? WINTER : NO_CLAUSE;
        }

        private static boolean spells(char[] text, int from, int end, String word) {
            if (from < 0 || end > text.length || end - from != word.length()) {
                return false;
            }
            for (int k = 0; k < word.length(); k++) {
                if (text[from + k] != word.charAt(k)) {
                    return false;
                }
            }
            return true;
        }

        private static boolean isFull(int clause, Cave into) {
            switch (clause) {
                case PART: return into.parts >= PARTS_ROOM;
                case WAY: return into.ways >= WAYS_ROOM;
                case PERSON: return into.persons >= PERSONS_ROOM;
                case INTEREST: return into.interestTold;
                case WINTER: return into.winters >= WINTERS_ROOM;
                default: return false;
            }
        }

        private static int lowest(int clause, boolean second) {
            return clause == PART || clause == WINTER && second ? 1 : 0;
        }

        private static int highest(int clause, boolean second, Cave into) {
            switch (clause) {
                case PART: return second ? 6 : 9;
                case PERSON: return second ? 999 : 99;
                case INTEREST: return 50;
                case WINTER: return second ? 9 : 90;
                default: return into.parts - 1;
            }
        }

        private static void addClause(int clause, int first, int second, Cave into) {
            switch (clause) {
                case PART: into.addPart(first, second); break;
                case MOUTH: into.addMouth(first); break;
                case WAY: into.addWay(first, second); break;
                case PERSON: into.addPerson(first, second); break;
                case INTEREST: into.setInterest(first); break;
                default: into.addWinter(first, second); break;
            }
        }
    }

    /** The stay that is told, day by day. */
    private static final class Stay {
        int count;
        private final int[] partOf = new int[DAYS_ROOM];

        int addDay(int p) {
            if (count < 0 || count >= DAYS_ROOM) {
                return FULL;
            }
            partOf[count] = p;
            count++;
            return count;
        }

        int time(Cave den) {
            int time = 0;
            for (int k = 0; k < count && k < DAYS_ROOM; k++) {
                time += den.rateOf(partOf[k]);
            }
            return time;
        }

        int wrongDay(Cave den) {
            if (count < 1 || count > DAYS_ROOM) {
                return NONE;
            }
            if (!den.hasMouth(partOf[0])) {
                return 0;
            }
            for (int k = 1; k < count; k++) {
                if (!den.mayFollow(partOf[k - 1], partOf[k])) {
                    return k;
                }
            }
            return den.hasMouth(partOf[count - 1]) ? NONE : count;
        }
    }

    /** What an image keeps: the date, the persons, the seed. */
    private static final class Folk {
        boolean kept;
        int date;
        int drawSeed;
        final int[] age = new int[PERSONS_ROOM];
        final int[] riches = new int[PERSONS_ROOM];
        final int[] out = new int[PERSONS_ROOM];

        void startIn(Cave den) {
            date = 0;
            for (int q = 0; q < PERSONS_ROOM; q++) {
                age[q] = den.firstAge[q];
                riches[q] = den.firstRiches[q];
                out[q] = NONE;
            }
        }

        void copyFrom(Folk other) {
            date = other.date;
            drawSeed = other.drawSeed;
            for (int q = 0; q < PERSONS_ROOM; q++) {
                age[q] = other.age[q];
                riches[q] = other.riches[q];
                out[q] = other.out[q];
            }
        }

        boolean isUp(int q) {
            return isPlace(q) && out[q] == NONE;
        }

        int downSet(int persons) {
            int set = 0;
            for (int q = 0; q < persons && q < PERSONS_ROOM; q++) {
                if (out[q] != NONE) {
                    set |= 1 << q;
                }
            }
            return set;
        }

        void goIn(int q, int days, int time) {
            if (isPlace(q)) {
                age[q] += days;
                out[q] = date + time;
            }
        }

        /** The age at a date from now on; of who is down then, as he will be out. */
        int ageAt(int q, int when) {
            if (!isPlace(q)) {
                return 0;
            }
            return age[q] + Math.max(0, when - Math.max(date, out[q]));
        }

        /** out is below every date for who is up, so that the greatest of the three is the date. */
        int meetingDate(int q, int r) {
            return isPlace(q) && isPlace(r) ? Math.max(date, Math.max(out[q], out[r])) : date;
        }

        int richesAt(int q, int when, int interest) {
            return isPlace(q) ? grown(riches[q], interest, when / YEAR - date / YEAR) : 0;
        }

        void letPass(int ticks, Cave den) {
            int then = date + ticks;
            for (int q = 0; q < den.persons && q < PERSONS_ROOM; q++) {
                age[q] = ageAt(q, then);
                riches[q] = richesAt(q, then, den.interest);
                if (out[q] <= then) {
                    out[q] = NONE;
                }
            }
            date = then;
        }

        void driftOnce(Cave den) {
            int q = nextDraw(den.persons);
            if (isUp(q)) {
                int p = nextDraw(den.parts);
                int days = nextDraw(9) + 1;
                if (den.hasMouth(p)) {
                    goIn(q, days, days * den.rateOf(p));
                }
            }
            letPass(nextDraw(YEAR), den);
        }

        private int nextDraw(int n) {
            drawSeed = (int) ((drawSeed * 1103515245L + 12345L) & 2147483647L);
            return n > 0 ? drawSeed / 65536 % n : 0;
        }

        private static boolean isPlace(int q) {
            return q >= 0 && q < PERSONS_ROOM;
        }

        private static int grown(int amount, int interest, int years) {
            long now = amount;
            for (int k = 0; k < years; k++) {
                long gain = now * interest / 100;
                // A sum that gains nothing, or stands at the most, never moves again: the years that are left are spared.
                if (gain == 0 || now >= MOST_SUM) {
                    break;
                }
                now = Math.min(MOST_SUM, now + gain);
            }
            return (int) now;
        }
    }

    /** The least and the greatest time of stays, by their days and their first part. */
    private static final class Spans {
        private final int[][] least = new int[DAYS_ROOM + 1][PARTS_ROOM];
        private final int[][] most = new int[DAYS_ROOM + 1][PARTS_ROOM];

        int leastTime(int d, int p) {
            return isCell(d, p) ? least[d][p] : NONE;
        }

        int mostTime(int d, int p) {
            return isCell(d, p) ? most[d][p] : NONE;
        }

        void layDays(Cave den, int to, int days) {
            for (int d = 1; d <= days && d <= DAYS_ROOM; d++) {
                layDay(den, to, d);
            }
        }

        /** The fewest days from one part to another one that take a time at least. */
        int daysReaching(Cave den, int from, int to, int time) {
            for (int d = 1; d <= DAYS_ROOM; d++) {
                layDay(den, to, d);
                if (mostTime(d, from) >= Math.max(0, time)) {
                    return d;
                }
            }
            return NONE;
        }

        /** Stands on what daysReaching laid last. */
        int partOfDay(Cave den, int from, int time, int days, int i) {
            int p = from;
            int left = time;
            for (int k = 0; k < i && k < DAYS_ROOM; k++) {
                left -= den.rateOf(p);
                p = firstReaching(den, p, days - 1 - k, left);
            }
            return p;
        }

        private int firstReaching(Cave den, int p, int days, int time) {
            for (int q = 0; q < PARTS_ROOM; q++) {
                if (den.mayFollow(p, q) && mostTime(days, q) >= Math.max(0, time)) {
                    return q;
                }
            }
            return NONE;
        }

        private void layDay(Cave den, int to, int d) {
            for (int p = 0; p < PARTS_ROOM; p++) {
                if (den.hasPart(p) && isCell(d, p)) {
                    layCell(den, to, d, p);
                }
            }
        }

        private void layCell(Cave den, int to, int d, int p) {
            int low = d == 1 && p == to ? 0 : NONE;
            int high = low;
            for (int q = 0; q < PARTS_ROOM; q++) {
                if (d > 1 && den.mayFollow(p, q) && mostTime(d - 1, q) != NONE) {
                    low = low == NONE ? leastTime(d - 1, q) : Math.min(low, leastTime(d - 1, q));
                    high = Math.max(high, mostTime(d - 1, q));
                }
            }
            least[d][p] = low == NONE ? NONE : low + den.rateOf(p);
            most[d][p] = high == NONE ? NONE : high + den.rateOf(p);
        }

        private static boolean isCell(int d, int p) {
            return d >= 1 && d <= DAYS_ROOM && p >= 0 && p < PARTS_ROOM;
        }
    }

    /** All the times that stays can take, bit by bit, by their days and their first part. */
    private static final class ExactTimes {
        private static final int WORDS = MOST_TIME / 64 + 1;

        private final long[][] times = new long[(DAYS_ROOM + 1) * PARTS_ROOM][WORDS];
        private final long[] rest = new long[WORDS];

        /** The fewest days from one part to another one that take just a time. */
        int daysMaking(Cave den, int from, int to, int time) {
            int words = Math.min(WORDS, time / 64 + 1);
            for (int d = 1; d <= DAYS_ROOM; d++) {
                for (int p = 0; p < PARTS_ROOM; p++) {
                    if (den.hasPart(p)) {
                        layRest(den, to, d, p, words);
                        layShifted(d, p, den.rateOf(p), words);
                    }
                }
                if (canMake(d, from, time)) {
                    return d;
                }
            }
            return NONE;
        }

        /** Stands on what daysMaking laid last. */
        int partOfDay(Cave den, int from, int time, int days, int i) {
            int p = from;
            int left = time;
            for (int k = 0; k < i && k < DAYS_ROOM; k++) {
                left -= den.rateOf(p);
                p = firstMaking(den, p, days - 1 - k, left);
            }
            return p;
        }

        private int firstMaking(Cave den, int p, int days, int time) {
            for (int q = 0; q < PARTS_ROOM; q++) {
                if (den.mayFollow(p, q) && canMake(days, q, time)) {
                    return q;
                }
            }
            return NONE;
        }

        private boolean canMake(int d, int p, int time) {
            if (!isRow(d, p) || time < 0 || time > MOST_TIME) {
                return false;
            }
            return (times[d * PARTS_ROOM + p][time / 64] >>> (time % 64) & 1L) == 1L;
        }

        /** The times that the days behind the first one of d can take: none of them but 0, if it is the only one. */
        private void layRest(Cave den, int to, int d, int p, int words) {
            for (int w = 0; w < words && w < WORDS; w++) {
                rest[w] = 0L;
            }
            if (d == 1 && p == to) {
                rest[0] = 1L;
            }
            for (int q = 0; q < PARTS_ROOM; q++) {
                if (d > 1 && den.mayFollow(p, q) && isRow(d - 1, q)) {
                    long[] row = times[(d - 1) * PARTS_ROOM + q];
                    for (int w = 0; w < words && w < WORDS; w++) {
                        rest[w] |= row[w];
                    }
                }
            }
        }

        private void layShifted(int d, int p, int ticks, int words) {
            if (!isRow(d, p) || ticks < 0) {
                return;
            }
            long[] row = times[d * PARTS_ROOM + p];
            int skip = ticks / 64;
            int bits = ticks % 64;
            for (int w = 0; w < words && w < WORDS; w++) {
                long word = w >= skip ? rest[w - skip] << bits : 0L;
                // A shift by 64 would be one by 0: whole words have no bits to carry.
                if (bits > 0 && w > skip) {
                    word |= rest[w - skip - 1] >>> (64 - bits);
                }
                row[w] = word;
            }
        }

        private static boolean isRow(int d, int p) {
            return d >= 1 && d <= DAYS_ROOM && p >= 0 && p < PARTS_ROOM;
        }
    }

    /** What somebody tried: so many days in one part, and so many ticks went by. */
    private static final class Trials {
        int count;
        private final int[] days = new int[TRIALS_ROOM];
        private final int[] ticks = new int[TRIALS_ROOM];

        int add(int d, int t) {
            if (count < 0 || count >= TRIALS_ROOM) {
                return FULL;
            }
            days[count] = d;
            ticks[count] = t;
            count++;
            return count;
        }

        int fittingSet(Cave den) {
            int set = 0;
            for (int p = 0; p < PARTS_ROOM; p++) {
                if (den.hasPart(p) && fitAll(den.rateOf(p))) {
                    set |= 1 << p;
                }
            }
            return set;
        }

        private boolean fitAll(int rate) {
            for (int k = 0; k < count && k < TRIALS_ROOM; k++) {
                if (days[k] * rate != ticks[k]) {
                    return false;
                }
            }
            return true;
        }
    }

    /** Lines of a date and an age, and which men they can be. */
    private static final class Registers {
        int count;
        final int[] man = new int[LINES_ROOM];
        private final int[] date = new int[LINES_ROOM];
        private final int[] age = new int[LINES_ROOM];

        boolean has(int i) {
            return i >= 0 && i < count && i < LINES_ROOM;
        }

        int add(int lineDate, int lineAge) {
            if (count < 0 || count >= LINES_ROOM) {
                return FULL;
            }
            date[count] = lineDate;
            age[count] = lineAge;
            count++;
            return count;
        }

        boolean agree(int a, int b) {
            if (!has(a) || !has(b)) {
                return false;
            }
            int years = date[b] - date[a];
            int older = age[b] - age[a];
            return years >= 0 ? older >= 0 && older <= years : older <= 0 && older >= years;
        }

        /** The fewest men of all lines; man tells the first way to be so many. */
        int leastMen() {
            for (int men = 0; men <= LINES_ROOM; men++) {
                if (placeFrom(this, 0, 0, men)) {
                    return men;
                }
            }
            return NONE;
        }

        /** Tries the lesser men first, so that the first way found is the first of all. Goes as deep as there are lines. */
        private static boolean placeFrom(Registers r, int i, int used, int men) {
            if (i >= r.count || i >= LINES_ROOM) {
                return true;
            }
            for (int m = 0; m <= used && m < men; m++) {
                if (r.canJoin(i, m)) {
                    r.man[i] = m;
                    if (placeFrom(r, i + 1, Math.max(used, m + 1), men)) {
                        return true;
                    }
                }
            }
            return false;
        }

        private boolean canJoin(int i, int m) {
            for (int k = 0; k < i && k < LINES_ROOM; k++) {
                if (man[k] == m && !agree(k, i)) {
                    return false;
                }
            }
            return true;
        }
    }
}
