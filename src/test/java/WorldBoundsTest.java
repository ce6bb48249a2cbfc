import java.util.Arrays;

/**
 * Part 2 of the Terms, THE STAY judged, BY DRAWS, and Promises 1, 5 to 13: a test for each sentence that names a bound.
 * What no run of 512 calls can reach is named in README.md.
 */
public final class WorldBoundsTest {
    private static final int UNKNOWN = CaveYears.UNKNOWN, OUTSIDE = CaveYears.OUTSIDE, NOT = CaveYears.NOT, FULL = CaveYears.FULL;
    private static final int[] FAR = {-2, 7, 8, 31, 32, 33, UNKNOWN, Integer.MIN_VALUE, Integer.MAX_VALUE};

    public static void main(String[] args) {
        aNewObject();
        told();
        setsAreBitByBit();
        partsThatThereAre();
        rates();
        personsThatThereAre();
        spendUpToForty();
        forgetOfAnyLength();
        theFirstDayThatMayNotBe();
        fortyDaysJudged();
        whoMayEnter();
        downTillOut();
        whatPassesByTheTick();
        whoIsOutWithinThem();
        passOneTo9999();
        wholeYears();
        cutAndAtMost();
        driftOneTo99();
        driftRefused();
        drawsWrapAround();
        drawsOfWhoIsDown();
        nineAndOneAndSixty();
        Check.finish();
    }

    /** "No PARTS, no PERSONS", "THE DATE is counted in TICKS from 0", "THE SEED (0 at first)". */
    private static void aNewObject() {
        CaveYears x = new CaveYears();
        for (int what = 0; what <= 11; what++) {
            Check.due("told(" + what + ")", x.told(what), 0);
        }
        Check.due("no PARTS", x.part(0, 0), UNKNOWN);
        Check.due("no PERSONS", x.person(0, 0), UNKNOWN);
        Check.due("no MOUTH", x.sitOut(0), UNKNOWN);
        Check.due("no line", x.fewest(0), OUTSIDE);
        Check.due("no IMAGE 0", x.goBack(0), NOT);
        Check.due("no IMAGE 1", x.goBack(1), NOT);
        Check.due("THE SEED", x.seed(3), 0);
    }

    /** told(): 0 .. 11, "OUTSIDE". */
    private static void told() {
        CaveYears x = States.busy();
        int[] due = {4, 5, 3, 10, 2, 30, 57, 1, 3, 165, 2, 3};
        for (int what = 0; what <= 11; what++) {
            Check.due("told(" + what + ")", x.told(what), due[what]);
        }
        CaveYears full = States.full();
        int[] most = {7, 127, 6, 50, 5, 500, 100, 63, 40, 20 * 60 + 20 * 120, 10, 8};
        for (int what = 0; what <= 11; what++) {
            Check.due("full: told(" + what + ")", full.told(what), most[what]);
        }
        for (int what : new int[] {-1, 12, 13, Integer.MIN_VALUE, Integer.MAX_VALUE}) {
            Check.refused("told(" + what + ")", States::busy, y -> y.told(what), OUTSIDE);
        }
    }

    /** "A SET is a whole number, bit k for k." */
    private static void setsAreBitByBit() {
        for (int k = 0; k < 7; k++) {
            int p = k;
            CaveYears x = Check.caveOf(States.PARTS_7 + "mouth " + p + ";way " + p + " " + (p + 1) % 7 + ";" + States.PERSONS_6);
            Check.due("a MOUTH at " + p, x.told(1), 1 << p);
            Check.due("a way to " + p, x.part((p + 1) % 7, 1), 1 << p);
            x.tryOut(1, x.part(p, 0));
            Check.due("fits " + p, x.fits(), 1 << p);
            x.spend(p);
            if (p < 6) {
                x.enter(p);
                Check.due("DOWN: " + p, x.told(7), 1 << p);
            }
        }
    }

    /** part(): "UNKNOWN (a PART that there is not), OUTSIDE", of both the first; ALIKE: "itself not". */
    private static void partsThatThereAre() {
        CaveYears full = States.full();
        Check.due("PART 6", full.part(6, 0), 420);
        Check.due("PART 0", full.part(0, 2), 0);
        Check.due("a PART of four: 3", States.busy().part(3, 2), 1);
        Check.due("a PART of four: 0", States.busy().part(0, 2), 8);
        CaveYears like = Check.caveOf("part 1 1;part 2 2;part 3 3;part 4 4;part 5 5;part 6 6;part 6 5;");
        for (int p = 0; p < 6; p++) {
            Check.due("ALIKE, itself not: " + p, like.part(p, 2), 63 & ~(1 << p));
        }
        Check.due("ALIKE none", like.part(6, 2), 0);
        for (int what = 0; what <= 2; what++) {
            int w = what;
            Check.refused("PART -1", States::busy, x -> x.part(-1, w), UNKNOWN);
            Check.refused("PART 4 of four", States::busy, x -> x.part(4, w), UNKNOWN);
            Check.refused("PART 7 of seven", States::full, x -> x.part(7, w), UNKNOWN);
            Check.refused("PART 0 of none", States::bare, x -> x.part(0, w), UNKNOWN);
        }
        for (int far : FAR) {
            Check.refused("PART " + far, States::full, x -> x.part(far, 0), UNKNOWN);
        }
        for (int what : new int[] {-1, 3, Integer.MIN_VALUE, Integer.MAX_VALUE}) {
            Check.refused("part(0, " + what + ")", States::busy, x -> x.part(0, what), OUTSIDE);
            Check.refused("part(3, " + what + ")", States::busy, x -> x.part(3, what), OUTSIDE);
            Check.refused("UNKNOWN ahead of OUTSIDE: part(4, " + what + ")", States::busy, x -> x.part(4, what), UNKNOWN);
            Check.refused("UNKNOWN ahead of OUTSIDE: part(-1, " + what + ")", States::busy, x -> x.part(-1, what), UNKNOWN);
        }
    }

    /** "RATE of a PART: 60 N / D TICKS", for each N and D. */
    private static void rates() {
        for (int n = 1; n <= 9; n++) {
            CaveYears x = Check.caveOf("part N 1;part N 2;part N 3;part N 4;part N 5;part N 6;".replace("N", "" + n));
            for (int d = 1; d <= 6; d++) {
                Check.due("RATE of " + n + " / " + d, x.part(d - 1, 0), 60 * n / d);
            }
        }
    }

    /** person(): "UNKNOWN, OUTSIDE", of both the first; "NONE: he is up here". */
    private static void personsThatThereAre() {
        CaveYears x = States.full();
        Check.due("PERSON 5 is OUT", x.person(5, 2), 3600);
        Check.due("PERSON 5's SUM", x.person(5, 1), 999 + 499);
        Check.due("up here", States.busy().person(2, 2), -1);
        for (int what = 0; what <= 2; what++) {
            int w = what;
            Check.refused("PERSON -1", States::busy, y -> y.person(-1, w), UNKNOWN);
            Check.refused("PERSON 3 of three", States::busy, y -> y.person(3, w), UNKNOWN);
            Check.refused("PERSON 6 of six", States::full, y -> y.person(6, w), UNKNOWN);
            Check.refused("PERSON 0 of none", States::bare, y -> y.person(0, w), UNKNOWN);
        }
        for (int far : FAR) {
            Check.refused("PERSON " + far, States::full, y -> y.person(far, 0), UNKNOWN);
        }
        for (int what : new int[] {-1, 3, Integer.MIN_VALUE, Integer.MAX_VALUE}) {
            Check.refused("person(0, " + what + ")", States::busy, y -> y.person(0, what), OUTSIDE);
            Check.refused("person(2, " + what + ")", States::busy, y -> y.person(2, what), OUTSIDE);
            Check.refused("UNKNOWN ahead of OUTSIDE: person(3, " + what + ")", States::busy, y -> y.person(3, what), UNKNOWN);
            Check.refused("UNKNOWN ahead of OUTSIDE: person(-1, " + what + ")", States::busy, y -> y.person(-1, what), UNKNOWN);
        }
    }

    private static CaveYears spent(int days) {
        CaveYears x = Check.caveOf(States.CAVE);
        for (int k = 0; k < days; k++) {
            Check.due("a DAY more", x.spend(0), k + 1);
        }
        return x;
    }

    /** "A STAY is a row of DAYS (40 at most)"; spend(): "UNKNOWN, FULL (40)", of both the first. */
    private static void spendUpToForty() {
        Check.due("the fortieth DAY", spent(39).spend(3), 40);
        Check.due("its TIME", spent(40).told(9), 2400);
        Check.refused("a 41st DAY", () -> spent(40), x -> x.spend(0), FULL);
        Check.refused("a 41st DAY at 3", () -> spent(40), x -> x.spend(3), FULL);
        for (int p : new int[] {-1, 4, Integer.MIN_VALUE, Integer.MAX_VALUE}) {
            Check.refused("spend(" + p + ")", States::busy, x -> x.spend(p), UNKNOWN);
            Check.refused("UNKNOWN ahead of FULL: spend(" + p + ")", () -> spent(40), x -> x.spend(p), UNKNOWN);
        }
        Check.refused("spend(7)", States::full, x -> x.spend(7), UNKNOWN);
        Check.refused("spend(6) that is FULL", States::full, x -> x.spend(6), FULL);
        Check.refused("spend(0) with no PARTS", States::bare, x -> x.spend(0), UNKNOWN);
        CaveYears x = spent(40);
        x.forget();
        Check.due("a DAY behind forget()", x.spend(2), 1);
        Check.due("its TIME alone", x.told(9), 15);
    }

    /** "THE STAY is empty: how many DAYS it had." */
    private static void forgetOfAnyLength() {
        Check.due("of none", new CaveYears().forget(), 0);
        Check.due("of one", spent(1).forget(), 1);
        CaveYears x = spent(40);
        Check.due("of forty", x.forget(), 40);
        Check.due("DAYS", x.told(8), 0);
        Check.due("TIME", x.told(9), 0);
        Check.due("again", x.forget(), 0);
        Check.due("judged", x.judge(), -1);
    }

    private static void judged(int want, int... parts) {
        CaveYears x = Check.caveOf(States.CAVE);
        Check.spendAll(x, parts);
        Check.due("judge() of " + Arrays.toString(parts), x.judge(), want);
    }

    /** "its first DAY that may not be (the first one not at a MOUTH; no WAY; behind all, the last one not at a MOUTH)"; "NONE". */
    private static void theFirstDayThatMayNotBe() {
        judged(-1);
        judged(-1, 0);
        judged(-1, 2);
        judged(0, 1);
        judged(0, 3);
        judged(0, 1, 3, 2, 0);
        judged(0, 3, 0);
        judged(-1, 0, 0);
        judged(1, 0, 2);
        judged(1, 0, 3);
        judged(1, 0, 2, 0);
        judged(2, 0, 0, 3, 1);
        judged(3, 0, 1, 3, 0);
        judged(2, 0, 1);
        judged(3, 0, 1, 1);
        judged(3, 0, 1, 3);
        judged(1, 0, 3, 3);
        judged(-1, 0, 1, 2);
        judged(-1, 2, 1, 1, 3, 3, 1, 0);
        Check.due("of a bare one", new CaveYears().judge(), -1);
        // A way goes both ways, whichever of the two was told first.
        CaveYears x = Check.caveOf("part 1 1;part 1 1;mouth 0;mouth 1;way 1 0;");
        Check.spendAll(x, 0, 1, 0, 1, 1);
        Check.due("both ways", x.judge(), -1);
    }

    private static CaveYears fortyDays(int last, int butOne) {
        CaveYears x = spent(38);
        x.spend(butOne);
        x.spend(last);
        return x;
    }

    /** "(.. how many DAYS it has)" at 40; "each DAY is in the PART of the DAY ahead, or .." at the last. */
    private static void fortyDaysJudged() {
        Check.due("forty good ones", fortyDays(0, 0).judge(), -1);
        Check.due("the last one not at a MOUTH", fortyDays(1, 0).judge(), 40);
        Check.due("no WAY to the last one", fortyDays(2, 0).judge(), 39);
        Check.due("by a way to the last one", fortyDays(2, 1).judge(), -1);
        Check.due("no WAY to the last but one", fortyDays(2, 3).judge(), 38);
        Check.due("enter() for forty", fortyDays(2, 1).enter(0), 38 * 60 + 90 + 15);
        CaveYears x = fortyDays(2, 1);
        x.enter(0);
        Check.due("forty TICKS older", x.person(0, 0), 1240);
    }

    private static CaveYears stay(int... parts) {
        CaveYears x = States.busy();
        Check.spendAll(x, parts);
        return x;
    }

    /** enter(): "UNKNOWN, NOT: he is DOWN; it is WRONG, empty", of both the first; "(it stays told)". */
    private static void whoMayEnter() {
        Check.due("up here, a good one", stay(0).enter(1), 57 + 60);
        Check.due("the last PERSON", stay(2).enter(2), 57 + 15);
        Check.refused("he is DOWN", () -> stay(0), x -> x.enter(0), NOT);
        Check.refused("it is empty", () -> stay(), x -> x.enter(1), NOT);
        Check.refused("DOWN and empty", () -> stay(), x -> x.enter(0), NOT);
        Check.refused("the first one not at a MOUTH", () -> stay(1, 0), x -> x.enter(1), NOT);
        Check.refused("no WAY", () -> stay(0, 2), x -> x.enter(1), NOT);
        Check.refused("the last one not at a MOUTH", () -> stay(0, 1), x -> x.enter(1), NOT);
        Check.refused("DOWN and WRONG", () -> stay(0, 1), x -> x.enter(0), NOT);
        for (int q : new int[] {-1, 3, 6, Integer.MIN_VALUE, Integer.MAX_VALUE}) {
            Check.refused("PERSON " + q, () -> stay(0), x -> x.enter(q), UNKNOWN);
            Check.refused("UNKNOWN ahead of NOT: " + q, () -> stay(0, 1), x -> x.enter(q), UNKNOWN);
        }
        Check.refused("UNKNOWN ahead of NOT, of six", States::full, x -> x.enter(6), UNKNOWN);
        Check.refused("UNKNOWN ahead of NOT, of none", States::bare, x -> x.enter(0), UNKNOWN);
        CaveYears x = stay(0, 1, 2);
        x.enter(1);
        Check.due("it stays told", x.told(8), 3);
        Check.due("its TIME", x.told(9), 165);
    }

    /** "he is OUT at THE DATE and its TIME, as many TICKS older as it has DAYS. Till then he is DOWN." */
    private static void downTillOut() {
        CaveYears x = stay(0, 1, 2);
        Check.due("OUT at THE DATE and its TIME", x.enter(1), 57 + 165);
        Check.due("as many TICKS older as DAYS", x.person(1, 0), 1857 + 3);
        Check.due("the DATE at which he is OUT", x.person(1, 2), 222);
        x.pass(164);
        Check.due("a TICK ahead of it", x.told(7), 2);
        Check.due("DOWN yet", x.person(1, 2), 222);
        Check.due("he may not go IN", x.enter(1), NOT);
        Check.due("a TICK more", x.pass(1), 222);
        Check.due("up here at that DATE", x.told(7), 0);
        Check.due("OUT: none", x.person(1, 2), -1);
        Check.due("no older than that", x.person(1, 0), 1860);
        Check.due("he may go IN again", x.enter(1), 222 + 165);
        Check.due("older by the second one", x.person(1, 0), 1863);
        CaveYears short1 = Check.caveOf("part 1 6;mouth 0;person 0 0;");
        short1.spend(0);
        Check.due("the shortest STAY", short1.enter(0), 10);
        short1.pass(9);
        Check.due("at 9", short1.told(7), 1);
        short1.pass(1);
        Check.due("at 10", short1.told(7), 0);
    }

    /** "who is in it becomes one TICK older; up here one becomes a TICK older with each TICK". */
    private static void whatPassesByTheTick() {
        CaveYears x = stay(0, 0);
        x.enter(1);
        for (int k = 1; k <= 120; k++) {
            x.pass(1);
            Check.due("up here: AGE", x.person(2, 0), 300 + 57 + k);
            Check.due("DOWN: AGE", x.person(1, 0), 1857 + 2);
        }
        x.pass(1);
        Check.due("OUT, and one TICK up here", x.person(1, 0), 1857 + 3);
    }

    /** "THE DATE is n more, those who are up here are that older; who is OUT within them is up here from then on." */
    private static void whoIsOutWithinThem() {
        int[] passes = {164, 165, 166, 1000};
        int[] older = {0, 0, 1, 835};
        for (int k = 0; k < passes.length; k++) {
            CaveYears x = stay(0, 1, 2);
            x.enter(1);
            Check.due("pass(" + passes[k] + ")", x.pass(passes[k]), 57 + passes[k]);
            Check.due("AGE of who is OUT within them", x.person(1, 0), 1860 + older[k]);
            Check.due("OUT", x.person(1, 2), passes[k] < 165 ? 222 : -1);
            Check.due("AGE of who is up here", x.person(2, 0), 357 + passes[k]);
        }
        CaveYears two = stay(0, 1, 2);
        two.enter(1);
        two.pass(300);
        Check.due("both OUT: DOWN", two.told(7), 0);
        Check.due("the one OUT at 172", two.person(0, 0), 1207 + 3 + 357 - 172);
        Check.due("the one OUT at 222", two.person(1, 0), 1860 + 357 - 222);
    }

    /** pass(): "1 .. 9999", "OUTSIDE". */
    private static void passOneTo9999() {
        Check.due("pass(1)", new CaveYears().pass(1), 1);
        Check.due("pass(9999)", new CaveYears().pass(9999), 9999);
        Check.due("pass(9999) of a busy one", States.busy().pass(9999), 10056);
        for (int n : new int[] {0, 10000, -1, 9999999, 10000000, Integer.MIN_VALUE, Integer.MAX_VALUE}) {
            Check.refused("pass(" + n + ")", States::busy, x -> x.pass(n), OUTSIDE);
            Check.refused("pass(" + n + ") of a bare one", States::bare, x -> x.pass(n), OUTSIDE);
        }
    }

    /** "A YEAR has 60 TICKS"; "with each whole YEAR of THE DATE a SUM becomes itself times I / 100 more". */
    private static void wholeYears() {
        CaveYears x = Check.caveOf("part 1 1;mouth 0;person 0 100;person 0 100;interest 10;");
        x.spend(0);
        x.spend(0);
        x.enter(1);
        int[] dates = {1, 59, 60, 61, 119, 120, 121, 179, 180};
        int[] sums = {100, 100, 110, 110, 110, 121, 121, 121, 133};
        for (int k = 0; k < dates.length; k++) {
            x.pass(dates[k] - (k == 0 ? 0 : dates[k - 1]));
            Check.due("SUM at " + dates[k], x.person(0, 1), sums[k]);
            Check.due("SUM at " + dates[k] + " of who is or was DOWN", x.person(1, 1), sums[k]);
        }
        CaveYears y = Check.caveOf("person 0 100;interest 10;");
        y.pass(180);
        Check.due("three YEARS at once", y.person(0, 1), 133);
        CaveYears z = Check.caveOf("person 0 100;interest 10;");
        z.pass(59);
        z.pass(2);
        Check.due("a YEAR ends within them", z.person(0, 1), 110);
        z.pass(58);
        Check.due("none ends within them", z.person(0, 1), 110);
        CaveYears none = Check.caveOf("person 0 999;interest 0;person 0 0;");
        none.pass(9999);
        Check.due("interest 0", none.person(0, 1), 999);
        Check.due("no SUM", none.person(1, 1), 0);
    }

    /** "(cut; 999999999 at most)". */
    private static void cutAndAtMost() {
        CaveYears x = Check.caveOf("person 0 99;person 0 1;person 0 100;person 0 199;interest 1;");
        x.pass(60);
        int[] due = {99, 1, 101, 200};
        for (int q = 0; q < 4; q++) {
            Check.due("a hundredth of it, cut: " + q, x.person(q, 1), due[q]);
        }
        CaveYears half = Check.caveOf("person 0 1;person 0 2;person 0 3;interest 50;");
        half.pass(60);
        Check.due("1 gains nothing", half.person(0, 1), 1);
        Check.due("2 gains 1", half.person(1, 1), 3);
        Check.due("3 gains 1", half.person(2, 1), 4);
        CaveYears much = Check.caveOf("person 0 999;interest 50;");
        much.pass(34 * 60);
        Check.due("the last SUM below the most", much.person(0, 1), 969178164);
        much.pass(59);
        Check.due("a TICK ahead", much.person(0, 1), 969178164);
        much.pass(1);
        Check.due("the most", much.person(0, 1), 999999999);
        much.pass(9999);
        Check.due("no more than the most", much.person(0, 1), 999999999);
    }

    /** drift(): "n times (1 .. 99)", "OUTSIDE". */
    private static void driftOneTo99() {
        for (int n : new int[] {1, 99}) {
            CaveYears x = States.busy();
            CaveYears one = States.busy();
            int date = 0;
            for (int k = 0; k < n; k++) {
                date = one.drift(1);
            }
            Check.due("drift(" + n + ")", x.drift(n), date);
            Check.due("THE DATE", x.told(6), date);
            Check.due("DOWN", x.told(7), one.told(7));
            Check.due("THE SEED", x.seed(0), one.seed(0));
        }
        for (int n : new int[] {0, 100, -1, Integer.MIN_VALUE, Integer.MAX_VALUE}) {
            Check.refused("drift(" + n + ")", States::busy, x -> x.drift(n), OUTSIDE);
        }
    }

    private static CaveYears driftless(String text) {
        CaveYears x = Check.caveOf(text);
        x.pass(3);
        x.keep(0);
        x.seed(55);
        x.pass(4);
        x.tryOut(1, 60);
        x.line(1, 1);
        x.spend(0);
        return x;
    }

    /** drift(): "NOT: no PARTS, no PERSONS", with OUTSIDE the first of both. */
    private static void driftRefused() {
        String[] texts = {"", "part 1 1;mouth 0;", "person 1 1;"};
        for (String text : texts) {
            Check.Maker maker = () -> driftless(text);
            Check.refused("drift(1) of '" + text + "'", maker, x -> x.drift(1), NOT);
            Check.refused("drift(99) of '" + text + "'", maker, x -> x.drift(99), NOT);
            Check.refused("OUTSIDE ahead of NOT: drift(0)", maker, x -> x.drift(0), OUTSIDE);
            Check.refused("OUTSIDE ahead of NOT: drift(100)", maker, x -> x.drift(100), OUTSIDE);
        }
        Check.due("one PART, one PERSON", Check.caveOf("part 1 1;person 1 1;").drift(1) >= 0 ? 1 : 0, 1);
    }

    private static long next(long seed) {
        return (seed * 1103515245L + 12345L) % 2147483648L;
    }

    private static int draw(long seed, int n) {
        return (int) (seed / 65536 % n);
    }

    /** "it becomes it times 1103515245 and 12345, left over by 2 to the 31": from both ends of THE SEED's bounds. */
    private static void drawsWrapAround() {
        int[] seeds = {0, 1, 2, 65535, 65536, 1073741823, 1073741824, 2147483646, 2147483647};
        for (int first : seeds) {
            CaveYears x = Check.caveOf("part 1 1;person 1 1;");
            x.seed(first);
            // One PERSON who is up here: a DRAW of PERSONS, of PARTS, of 9, of TICKS.
            long seed = next(next(next(next(first))));
            Check.due("drift(1) from " + first, x.drift(1), draw(seed, 60));
            Check.due("THE SEED behind it", x.seed(0), seed);
        }
        // By hand: 0 becomes 12345, then 1406932606, 654583775, 1449466924.
        CaveYears x = Check.caveOf("part 1 1;person 1 1;");
        Check.due("1449466924 / 65536 is 22117, left over by 60", x.drift(1), 37);
        Check.due("THE SEED of four DRAWS from 0", x.seed(0), 1449466924);
    }

    /** "if he is up here, a DRAW of PARTS, a DRAW of 9 ..; then a DRAW of 60": two DRAWS of who is DOWN, four of who is not. */
    private static void drawsOfWhoIsDown() {
        CaveYears x = Check.caveOf("part 9 1;mouth 0;person 1 1;");
        x.seed(99);
        for (int k = 0; k < 40; k++) {
            x.spend(0);
        }
        x.enter(0);
        x.drift(1);
        Check.due("DOWN: two DRAWS", x.seed(99), next(next(99)));
        Check.due("OUT as it was", x.person(0, 2), 21600);
        CaveYears shut = Check.caveOf("part 9 1;person 1 1;");
        shut.seed(99);
        shut.drift(1);
        Check.due("up here, no MOUTH: four DRAWS", shut.seed(0), next(next(next(next(99)))));
        Check.due("up here yet", shut.told(7), 0);
    }

    /** "a DRAW of 9 and 1: .. so many DAYS in that PART"; "a DRAW of 60 TICKS": the least and the most of both. */
    private static void nineAndOneAndSixty() {
        int[] met = new int[4];
        for (int first = 0; first < 2000; first++) {
            long third = next(next(next(first)));
            int days = draw(third, 9) + 1;
            int ticks = draw(next(third), 60);
            if (days != 1 && days != 9 && ticks != 0 && ticks != 59) {
                continue;
            }
            met[0] += days == 1 ? 1 : 0;
            met[1] += days == 9 ? 1 : 0;
            met[2] += ticks == 0 ? 1 : 0;
            met[3] += ticks == 59 ? 1 : 0;
            CaveYears x = Check.caveOf("part 9 1;mouth 0;person 1 1;");
            x.seed(first);
            Check.due("TICKS that PASS", x.drift(1), ticks);
            Check.due("OUT for so many DAYS", x.person(0, 2), 540 * days);
            Check.due("older by so many", x.person(0, 0), 60 + days);
        }
        for (int k = 0; k < 4; k++) {
            Check.due("each bound of a DRAW was met", met[k] > 0 ? 1 : 0, 1);
        }
    }
}
