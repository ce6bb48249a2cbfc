/** JUST, SPAN, LONGEST, MEETING, SUM, SITTING OUT, and Promises 14 to 19: a test for each sentence that names a bound. */
public final class TriedBoundsTest {
    private static final int UNKNOWN = CaveYears.UNKNOWN, OUTSIDE = CaveYears.OUTSIDE;
    private static final int[] NO_MOUTHS = {1, 3, -1, 4, 7, 32, Integer.MIN_VALUE, Integer.MAX_VALUE};
    private static final int[] NO_WHATS = {-1, 2, 3, Integer.MIN_VALUE, Integer.MAX_VALUE};
    private static final int[] NO_DAYS = {0, 41, -1, Integer.MIN_VALUE, Integer.MAX_VALUE};
    /** Seven PARTS in a row, MOUTHS at both ends. */
    private static final String ROW = States.PARTS_7 + "mouth 0;mouth 6;way 0 1;way 1 2;way 2 3;way 3 4;way 4 5;way 5 6;";

    public static void main(String[] args) {
        justFromMouthsAlone();
        justOfTimesUpTo6000();
        justOneToFortyDays();
        justToTheSameOrAnother();
        justDayByDay();
        justTheFewestThenTheFirst();
        justByWaysAlone();
        atLeastReachesItJust();
        spanOfDays();
        spanNone();
        spanRefused();
        longestOfDays();
        longestOfLikeOnes();
        longestRefused();
        meetingNow();
        meetingLater();
        meetingRefused();
        sumFromTheDateOn();
        sumRefused();
        sitOutWhatBeginsNow();
        sitOutTheLastEnd();
        sitOutUpToForty();
        sitOutRefused();
        Check.finish();
    }

    /** just(): "UNKNOWN (a PART without a MOUTH, too), OUTSIDE (t)", of both the first. */
    private static void justFromMouthsAlone() {
        for (int p : NO_MOUTHS) {
            for (boolean atLeast : new boolean[] {false, true}) {
                Check.refused("from " + p, States::busy, x -> x.just(p, 0, 60, atLeast, -1), UNKNOWN);
                Check.refused("to " + p, States::busy, x -> x.just(0, p, 60, atLeast, 0), UNKNOWN);
                Check.refused("UNKNOWN ahead of OUTSIDE: from " + p, States::busy, x -> x.just(p, 0, -1, atLeast, -1), UNKNOWN);
                Check.refused("UNKNOWN ahead of OUTSIDE: to " + p, States::busy, x -> x.just(2, p, 6001, atLeast, -1), UNKNOWN);
            }
        }
        Check.refused("from none of none", States::bare, x -> x.just(0, 0, 60, false, -1), UNKNOWN);
        Check.refused("from 7 of seven", States::full, x -> x.just(7, 0, 60, false, -1), UNKNOWN);
        Check.refused("to 7 of seven", States::full, x -> x.just(0, 7, 60, false, -1), UNKNOWN);
        Check.due("from 6 of seven", States.full().just(6, 6, 420, false, -1), 1);
    }

    /** "JUST a TIME t (0 .. 6000)". */
    private static void justOfTimesUpTo6000() {
        CaveYears x = Check.caveOf("part 5 1;part 9 1;mouth 0;mouth 1;");
        Check.due("just 0: no STAY has none", x.just(0, 0, 0, false, -1), -1);
        Check.due("its DAY 0", x.just(0, 0, 0, false, 0), -1);
        Check.due("0 or more", x.just(0, 0, 0, true, -1), 1);
        Check.due("just 6000", x.just(0, 0, 6000, false, -1), 20);
        Check.due("its last DAY", x.just(0, 0, 6000, false, 19), 0);
        Check.due("just 5999", x.just(0, 0, 5999, false, -1), -1);
        Check.due("6000 or more", x.just(1, 1, 6000, true, -1), 12);
        for (int t : new int[] {-1, 6001, Integer.MIN_VALUE, Integer.MAX_VALUE}) {
            for (boolean atLeast : new boolean[] {false, true}) {
                for (int i : new int[] {-2, -1, 0, 40}) {
                    Check.refused("t " + t + ", i " + i, States::busy, y -> y.just(0, 2, t, atLeast, i), OUTSIDE);
                }
            }
        }
    }

    /** "the STAY of the fewest DAYS (1 .. 40) whose TIME is t, or, AT LEAST, t or more; .. NONE". */
    private static void justOneToFortyDays() {
        CaveYears x = Check.caveOf("part 1 6;mouth 0;");
        for (int d = 1; d <= 40; d++) {
            Check.due("just " + d + " DAYS", x.just(0, 0, 10 * d, false, -1), d);
            Check.due(d + " DAYS at least", x.just(0, 0, 10 * d, true, -1), d);
            Check.due("one TICK more than they are", x.just(0, 0, 10 * d + 1, true, -1), d == 40 ? -1 : d + 1);
            Check.due("just that", x.just(0, 0, 10 * d + 1, false, -1), -1);
        }
        Check.due("just 41 DAYS", x.just(0, 0, 410, false, -1), -1);
        Check.due("a DAY of them", x.just(0, 0, 410, false, 0), -1);
        Check.due("41 DAYS at least", x.just(0, 0, 410, true, 0), -1);
        // 39 DAYS of 10 and one of 540 are forty; forty of 10 and one of 540 are one too many.
        CaveYears y = Check.caveOf("part 1 6;part 9 1;mouth 0;way 0 1;");
        Check.due("a TIME that needs forty", y.just(0, 0, 39 * 10 + 540, false, -1), 40);
        Check.due("one that needs 41", y.just(0, 0, 40 * 10 + 540, false, -1), -1);
    }

    /** "from one PART with a MOUTH to another, or the same". */
    private static void justToTheSameOrAnother() {
        CaveYears x = Check.caveOf(ROW);
        int all = 60 * (1 + 2 + 3 + 4 + 5 + 6 + 7);
        Check.due("to the same", x.just(6, 6, 420, false, -1), 1);
        Check.due("to another one", x.just(0, 6, all, false, -1), 7);
        Check.due("and back", x.just(6, 0, all, false, -1), 7);
        for (int i = 0; i < 7; i++) {
            Check.due("DAY " + i, x.just(0, 6, all, false, i), i);
            Check.due("DAY " + i + " back", x.just(6, 0, all, true, i), 6 - i);
        }
        Check.due("a TICK less", x.just(0, 6, all - 1, false, -1), -1);
        Check.due("0 at least: no STAY is shorter than its way", x.just(0, 6, 0, true, -1), 7);
        for (int i = 0; i < 7; i++) {
            Check.due("0 at least, DAY " + i, x.just(0, 6, 0, true, i), i);
        }
        CaveYears apart = Check.caveOf("part 1 1;part 1 1;mouth 0;mouth 1;");
        Check.due("no way to another one", apart.just(0, 1, 120, false, -1), -1);
        Check.due("no way at least", apart.just(0, 1, 0, true, -1), -1);
    }

    /** "i = NONE how many DAYS, else the PART of DAY i; NONE". */
    private static void justDayByDay() {
        CaveYears x = Check.caveOf(States.CAVE);
        for (boolean atLeast : new boolean[] {false, true}) {
            Check.due("how many", x.just(0, 2, 165, atLeast, -1), 3);
            Check.due("DAY 0", x.just(0, 2, 165, atLeast, 0), 0);
            Check.due("DAY 1", x.just(0, 2, 165, atLeast, 1), 1);
            Check.due("DAY 2", x.just(0, 2, 165, atLeast, 2), 2);
            for (int i : new int[] {3, 4, 39, 40, 41, -2, Integer.MIN_VALUE, Integer.MAX_VALUE}) {
                Check.due("DAY " + i, x.just(0, 2, 165, atLeast, i), -1);
            }
        }
        for (int i : new int[] {-1, 0, 1, 40}) {
            Check.due("no STAY: " + i, x.just(0, 2, 76, false, i), -1);
        }
    }

    /** "the STAY of the fewest DAYS .. ; of like ones the first (DAY by DAY the lesser PART)". */
    private static void justTheFewestThenTheFirst() {
        // Two PARTS of one RATE, so that many STAYS are as long and have one TIME.
        CaveYears x = Check.caveOf("part 1 1;part 2 1;part 2 1;mouth 0;mouth 1;mouth 2;way 0 1;way 0 2;way 1 2;");
        due(x, false, 180, 0, 1, 0, 1);
        due(x, false, 300, 0, 1, 0, 1, 1);
        due(x, false, 180, 0, 0, 0, 0, 0);
        due(x, true, 180, 0, 0, 0, 0, 0);
        due(x, true, 181, 0, 0, 0, 1, 0);
        due(x, false, 240, 0, 0, 0, 1, 0);
        due(x, false, 240, 2, 1, 2, 1);
        due(x, false, 240, 1, 1, 1, 1);
        due(x, false, 360, 1, 2, 1, 1, 2);
        due(x, true, 301, 1, 2, 1, 1, 2);
        due(x, true, 300, 1, 2, 1, 0, 2);
        due(x, false, 300, 1, 2, 1, 0, 2);
    }

    /** "each DAY is in the PART of the DAY ahead, or in one to which there is a WAY from it": a lesser PART is no nearer. */
    private static void justByWaysAlone() {
        CaveYears x = Check.caveOf("part 1 1;part 1 1;part 1 1;part 1 1;mouth 3;way 0 1;way 1 2;way 2 3;");
        due(x, false, 240, 3, 3, 3, 2, 2, 3);
        due(x, true, 240, 3, 3, 3, 2, 2, 3);
        due(x, false, 300, 3, 3, 3, 2, 1, 2, 3);
        due(x, true, 241, 3, 3, 3, 2, 1, 2, 3);
    }

    /** The STAY that just() names, DAY by DAY. */
    private static void due(CaveYears x, boolean atLeast, int t, int from, int to, int... days) {
        String what = "just(" + from + ", " + to + ", " + t + ", " + atLeast + ")";
        Check.due(what, x.just(from, to, t, atLeast, -1), days.length);
        for (int i = 0; i < days.length; i++) {
            Check.due(what + ", DAY " + i, x.just(from, to, t, atLeast, i), days[i]);
        }
    }

    /** "t or more". */
    private static void atLeastReachesItJust() {
        CaveYears x = Check.caveOf(ROW);
        Check.due("419 or more", x.just(6, 6, 419, true, -1), 1);
        Check.due("420 or more", x.just(6, 6, 420, true, -1), 1);
        Check.due("421 or more", x.just(6, 6, 421, true, -1), 2);
        int most = 60 * (1 + 2 + 3 + 4 + 5 + 6 + 7) + 7 * 60;
        Check.due("the most of eight DAYS", x.just(0, 6, most, true, -1), 8);
        Check.due("a TICK more", x.just(0, 6, most + 1, true, -1), 9);
        // The most of eight DAYS stays at 6 for two; what a second DAY at 0 has reaches 360 TICKS less, and is the first then.
        Check.due("eight DAYS, DAY 1", x.just(0, 6, most - 6 * 60, true, 1), 0);
        Check.due("eight DAYS, DAY 1 of the most", x.just(0, 6, most, true, 1), 1);
        Check.due("eight DAYS, DAY 6 of the most", x.just(0, 6, most, true, 6), 6);
    }

    /** "SPAN of d DAYS (1 .. 40) from one to another one: the least, the greatest TIME". */
    private static void spanOfDays() {
        CaveYears x = Check.caveOf(States.CAVE);
        Check.due("one DAY, the least", x.span(0, 0, 1, 0), 60);
        Check.due("one DAY, the greatest", x.span(0, 0, 1, 1), 60);
        Check.due("three DAYS, the least", x.span(0, 0, 3, 0), 180);
        Check.due("three DAYS, the greatest", x.span(0, 0, 3, 1), 210);
        Check.due("forty DAYS, the least", x.span(0, 0, 40, 0), 2 * 60 + 2 * 90 + 36 * 15);
        Check.due("forty DAYS, the greatest", x.span(0, 0, 40, 1), 2 * 60 + 38 * 90);
        Check.due("39 DAYS, the greatest", x.span(0, 0, 39, 1), 2 * 60 + 37 * 90);
        Check.due("to another one, the least", x.span(0, 2, 40, 0), 60 + 90 + 38 * 15);
        Check.due("to another one, the greatest", x.span(2, 0, 40, 1), 60 + 15 + 38 * 90);
        CaveYears most = Check.caveOf("part 9 1;mouth 0;");
        Check.due("the greatest of all", most.span(0, 0, 40, 1), 21600);
    }

    /** "; NONE": too few DAYS, no way. */
    private static void spanNone() {
        CaveYears x = Check.caveOf(ROW);
        for (int what = 0; what <= 1; what++) {
            Check.due("six DAYS are too few", x.span(0, 6, 6, what), -1);
            Check.due("seven DAYS do", x.span(0, 6, 7, what), 60 * 28);
            Check.due("one DAY to another one", x.span(0, 6, 1, what), -1);
        }
        CaveYears apart = Check.caveOf("part 1 1;part 1 1;mouth 0;mouth 1;");
        Check.due("no way, the least", apart.span(0, 1, 40, 0), -1);
        Check.due("no way, the greatest", apart.span(1, 0, 40, 1), -1);
    }

    /** span(): "UNKNOWN (a PART without a MOUTH, too), OUTSIDE", of both the first. */
    private static void spanRefused() {
        for (int p : NO_MOUTHS) {
            Check.refused("span from " + p, States::busy, x -> x.span(p, 0, 1, 0), UNKNOWN);
            Check.refused("span to " + p, States::busy, x -> x.span(2, p, 40, 1), UNKNOWN);
            Check.refused("UNKNOWN ahead of OUTSIDE: from " + p, States::busy, x -> x.span(p, 0, 0, 0), UNKNOWN);
            Check.refused("UNKNOWN ahead of OUTSIDE: to " + p, States::busy, x -> x.span(0, p, 1, 2), UNKNOWN);
        }
        for (int d : NO_DAYS) {
            Check.refused("span of " + d, States::busy, x -> x.span(0, 2, d, 0), OUTSIDE);
            Check.refused("span of " + d + ", the greatest", States::busy, x -> x.span(0, 0, d, 1), OUTSIDE);
        }
        for (int what : NO_WHATS) {
            Check.refused("span, what " + what, States::busy, x -> x.span(0, 2, 3, what), OUTSIDE);
            Check.refused("span of none there is, what " + what, States::busy, x -> x.span(0, 2, 1, what), OUTSIDE);
        }
        Check.refused("span from none of none", States::bare, x -> x.span(0, 0, 1, 0), UNKNOWN);
        Check.refused("span to 7 of seven", States::full, x -> x.span(0, 7, 1, 0), UNKNOWN);
    }

    /** "LONGEST: of PARTS with a MOUTH the one from which, back to it, d DAYS have the greatest TIME". */
    private static void longestOfDays() {
        CaveYears x = Check.caveOf("part 1 1;part 9 1;part 2 1;part 5 1;mouth 0;mouth 2;way 0 1;way 2 3;");
        Check.due("one DAY", x.longest(1, 0), 2);
        Check.due("its TIME", x.longest(1, 1), 120);
        Check.due("two DAYS", x.longest(2, 0), 2);
        Check.due("their TIME", x.longest(2, 1), 240);
        Check.due("three DAYS", x.longest(3, 0), 0);
        Check.due("their TIME", x.longest(3, 1), 660);
        Check.due("forty DAYS", x.longest(40, 0), 0);
        Check.due("their TIME", x.longest(40, 1), 120 + 38 * 540);
        CaveYears last = Check.caveOf(States.PARTS_7 + "mouth 6;mouth 1;");
        Check.due("the last PART", last.longest(1, 0), 6);
        Check.due("a PART without a MOUTH is none", Check.caveOf(States.PARTS_7 + "mouth 1;").longest(1, 0), 1);
    }

    /** "of like ones the least; NONE". */
    private static void longestOfLikeOnes() {
        CaveYears x = Check.caveOf("part 2 1;part 4 2;part 6 3;mouth 2;mouth 1;");
        Check.due("of like ones the least", x.longest(5, 0), 1);
        Check.due("their TIME", x.longest(5, 1), 600);
        String[] none = {"", "part 1 1;", States.PARTS_7};
        for (String text : none) {
            CaveYears y = Check.caveOf(text);
            Check.due("no MOUTH: the PART", y.longest(1, 0), -1);
            Check.due("no MOUTH: the TIME", y.longest(40, 1), -1);
        }
    }

    /** longest(): "OUTSIDE", also where there is NONE. */
    private static void longestRefused() {
        for (int d : NO_DAYS) {
            for (int what = 0; what <= 1; what++) {
                int w = what;
                Check.refused("longest(" + d + ", " + w + ")", States::busy, x -> x.longest(d, w), OUTSIDE);
                Check.refused("longest(" + d + ", " + w + ") of a bare one", States::bare, x -> x.longest(d, w), OUTSIDE);
            }
        }
        for (int what : NO_WHATS) {
            Check.refused("longest(1, " + what + ")", States::busy, x -> x.longest(1, what), OUTSIDE);
            Check.refused("longest(40, " + what + ") of a bare one", States::bare, x -> x.longest(40, what), OUTSIDE);
        }
    }

    /** "the first DATE, from now on, at which both are up here": now, if both are. */
    private static void meetingNow() {
        CaveYears x = States.busy();
        Check.due("now", x.meeting(1, 2, 0), 57);
        Check.due("how old q is", x.meeting(1, 2, 1), 1857);
        Check.due("how old r is", x.meeting(1, 2, 2), 357);
        Check.due("how old q is, turned round", x.meeting(2, 1, 1), 357);
        CaveYears y = Check.caveOf("person 0 0;person 99 0;");
        Check.due("at DATE 0", y.meeting(0, 1, 0), 0);
        Check.due("AGE 0", y.meeting(0, 1, 1), 0);
        Check.due("six PERSONS: the last two", Check.caveOf(States.PERSONS_6).meeting(5, 4, 1), 5940);
    }

    /** The first DATE at which the later one is OUT; the other one is that older by then. */
    private static void meetingLater() {
        CaveYears x = States.busy();
        int[] due = {172, 1210, 1857 + 115};
        for (int what = 0; what <= 2; what++) {
            Check.due("one DOWN: " + what, x.meeting(0, 1, what), due[what]);
        }
        Check.spendAll(x, 2, 2);
        x.enter(2);
        Check.due("both DOWN", x.meeting(2, 0, 0), 172);
        Check.due("OUT at 87, then up here", x.meeting(2, 0, 1), 357 + 2 + 172 - 87);
        Check.due("OUT at that DATE", x.meeting(2, 0, 2), 1210);
        x.pass(114);
        Check.due("a TICK ahead of it", x.meeting(0, 1, 0), 172);
        x.pass(1);
        Check.due("at it", x.meeting(0, 1, 0), 172);
        x.pass(1);
        Check.due("behind it: now", x.meeting(0, 1, 0), 173);
        Check.due("how old then", x.meeting(0, 1, 1), 1211);
        // OUT at one and the same DATE.
        CaveYears both = States.busy();
        Check.spendAll(both, 0, 0);
        both.enter(1);
        both.enter(2);
        Check.due("both OUT at once", both.meeting(1, 2, 0), 177);
        Check.due("how old q is", both.meeting(1, 2, 1), 1859);
        Check.due("how old r is", both.meeting(1, 2, 2), 359);
    }

    /** meeting(): "UNKNOWN (one twice), OUTSIDE", of both the first. */
    private static void meetingRefused() {
        for (int q : new int[] {-1, 3, 6, Integer.MIN_VALUE, Integer.MAX_VALUE}) {
            for (int what : new int[] {0, 1, 2, 3, -1}) {
                Check.refused("meeting(" + q + ", 0, " + what + ")", States::busy, x -> x.meeting(q, 0, what), UNKNOWN);
                Check.refused("meeting(2, " + q + ", " + what + ")", States::busy, x -> x.meeting(2, q, what), UNKNOWN);
                Check.refused("meeting(" + q + ", " + q + ", " + what + ")", States::busy, x -> x.meeting(q, q, what), UNKNOWN);
            }
        }
        for (int q = 0; q < 3; q++) {
            int one = q;
            Check.refused("one twice: " + q, States::busy, x -> x.meeting(one, one, 0), UNKNOWN);
            Check.refused("one twice, ahead of OUTSIDE: " + q, States::busy, x -> x.meeting(one, one, 3), UNKNOWN);
        }
        for (int what : new int[] {-1, 3, Integer.MIN_VALUE, Integer.MAX_VALUE}) {
            Check.refused("meeting(0, 2, " + what + ")", States::busy, x -> x.meeting(0, 2, what), OUTSIDE);
            Check.refused("meeting(5, 0, " + what + ")", States::full, x -> x.meeting(5, 0, what), OUTSIDE);
        }
        Check.refused("none of none", States::bare, x -> x.meeting(0, 1, 0), UNKNOWN);
        Check.refused("6 of six", States::full, x -> x.meeting(6, 0, 0), UNKNOWN);
    }

    /** "SUM of a PERSON at a DATE (from THE DATE on, 9999999 at most)": whole YEARS of THE DATE, from now on. */
    private static void sumFromTheDateOn() {
        CaveYears x = States.busy();
        int[][] due = {{57, 100}, {59, 100}, {60, 110}, {119, 110}, {120, 121}, {180, 133}, {9999999, 999999999}};
        for (int[] d : due) {
            Check.due("SUM at " + d[0], x.sum(0, d[0]), d[1]);
        }
        Check.due("a SUM that gains nothing", x.sum(1, 9999999), 7);
        Check.due("the SUM as it was", x.person(0, 1), 100);
        x.pass(3);
        Check.due("at THE DATE, a whole YEAR", x.sum(0, 60), 110);
        Check.due("a YEAR on", x.sum(0, 120), 121);
        CaveYears none = Check.caveOf("person 0 999;");
        Check.due("no interest, the last DATE", none.sum(0, 9999999), 999);
        CaveYears much = Check.caveOf("person 0 999;interest 50;");
        Check.due("the last below the most", much.sum(0, 35 * 60 - 1), 969178164);
        Check.due("the most", much.sum(0, 35 * 60), 999999999);
        CaveYears slow = Check.caveOf("person 0 100;interest 1;");
        Check.due("101 gains 1", slow.sum(0, 120), 102);
        slow.pass(120);
        Check.due("as it passes", slow.person(0, 1), 102);
    }

    /** sum(): "UNKNOWN, OUTSIDE", of both the first. */
    private static void sumRefused() {
        for (int date : new int[] {56, 0, -1, 10000000, Integer.MIN_VALUE, Integer.MAX_VALUE}) {
            Check.refused("sum(0, " + date + ")", States::busy, x -> x.sum(0, date), OUTSIDE);
            for (int q : new int[] {-1, 3, 6}) {
                Check.refused("UNKNOWN ahead of OUTSIDE: sum(" + q + ", " + date + ")", States::busy, x -> x.sum(q, date), UNKNOWN);
            }
        }
        for (int q : new int[] {-1, 3, 6, Integer.MIN_VALUE, Integer.MAX_VALUE}) {
            Check.refused("sum(" + q + ", 57)", States::busy, x -> x.sum(q, 57), UNKNOWN);
        }
        Check.refused("sum of none", States::bare, x -> x.sum(0, 0), UNKNOWN);
        Check.refused("sum of 6 of six", States::full, x -> x.sum(6, 100), UNKNOWN);
        Check.due("sum(5, THE DATE)", States.full().sum(5, 100), 1498);
        Check.refused("sum(5, a TICK ahead)", States::full, x -> x.sum(5, 99), OUTSIDE);
        Check.due("DATE 0", new CaveYears().sum(0, 0), UNKNOWN);
    }

    /** "any winter that begins at THE DATE or later"; "0, if none of them is to come". */
    private static void sitOutWhatBeginsNow() {
        String text = "part 1 1;mouth 0;winter 2 3;";
        int[] dates = {0, 119, 120, 121};
        int[] due = {5, 4, 3, 0};
        for (int k = 0; k < dates.length; k++) {
            CaveYears x = Check.caveOf(text);
            if (dates[k] > 0) {
                x.pass(dates[k]);
            }
            Check.due("a winter from 120 on, at " + dates[k], x.sitOut(0), due[k]);
        }
        Check.due("one from 0 on, at 0", Check.caveOf("part 1 1;mouth 0;winter 0 1;").sitOut(0), 1);
        CaveYears begun = Check.caveOf("part 1 1;mouth 0;winter 0 1;");
        begun.pass(1);
        Check.due("one from 0 on, at 1", begun.sitOut(0), 0);
        Check.due("no winters", Check.caveOf("part 1 1;mouth 0;").sitOut(0), 0);
        Check.due("one from 90 on", Check.caveOf("part 9 1;mouth 0;winter 90 9;").sitOut(0), 11);
    }

    /** "(its TIME reaches the last end of these at least)". */
    private static void sitOutTheLastEnd() {
        Check.due("reached just", Check.caveOf("part 3 1;mouth 0;winter 1 2;").sitOut(0), 1);
        Check.due("a TICK short", Check.caveOf("part 2 1;mouth 0;winter 1 2;").sitOut(0), 2);
        Check.due("the last end, not the last begun", Check.caveOf("part 1 1;mouth 0;winter 1 9;winter 3 2;").sitOut(0), 10);
        Check.due("in any order", Check.caveOf("part 1 1;mouth 0;winter 3 2;winter 1 9;").sitOut(0), 10);
        Check.due("the fifth", Check.caveOf("part 1 1;mouth 0;winter 1 1;winter 2 1;winter 3 1;winter 4 1;winter 5 6;").sitOut(0), 11);
        CaveYears x = Check.caveOf("part 1 1;mouth 0;winter 1 9;winter 3 2;");
        x.pass(61);
        Check.due("the longer one has begun: the end of the other", x.sitOut(0), 4);
        CaveYears y = Check.caveOf("part 1 1;part 9 1;mouth 0;way 0 1;winter 0 9;");
        Check.due("from a MOUTH to itself: 0 1 0", y.sitOut(0), 3);
    }

    /** "the fewest DAYS (40 at most) ..; NONE". */
    private static void sitOutUpToForty() {
        Check.due("forty", Check.caveOf("part 1 1;mouth 0;winter 39 1;").sitOut(0), 40);
        Check.due("41", Check.caveOf("part 1 1;mouth 0;winter 40 1;").sitOut(0), -1);
        CaveYears x = Check.caveOf("part 1 1;mouth 0;winter 40 1;");
        x.pass(59);
        Check.due("a TICK more than forty", x.sitOut(0), -1);
        x.pass(1);
        Check.due("forty of 41 are left", x.sitOut(0), 40);
    }

    /** sitOut(): "UNKNOWN (one without, too)". */
    private static void sitOutRefused() {
        for (int p : NO_MOUTHS) {
            Check.refused("sitOut(" + p + ")", States::busy, x -> x.sitOut(p), UNKNOWN);
        }
        Check.refused("sitOut(0) of none", States::bare, x -> x.sitOut(0), UNKNOWN);
        Check.refused("sitOut(7) of seven", States::full, x -> x.sitOut(7), UNKNOWN);
        Check.due("sitOut(6) of seven, from DATE 100 to YEAR 99", States.full().sitOut(6), 14);
        Check.due("sitOut(2), from DATE 57 to YEAR 9", States.busy().sitOut(2), 8);
    }
}
