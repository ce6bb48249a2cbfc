/** Promises 14 to 19: just, span, longest, meeting, sum, sitting out. */
public final class TriedTest {
    private static final int UNKNOWN = CaveYears.UNKNOWN, OUTSIDE = CaveYears.OUTSIDE;
    private static final String CAVE = "part 1 1;part 3 2;part 1 4;part 1 1;mouth 0;mouth 2;way 0 1;way 1 2;way 1 3;"
            + "person 20 100;person 30 7;person 5 0;interest 10;winter 2 1;winter 6 3;";

    public static void main(String[] args) {
        justOnes();
        theFirstOfLikeOnes();
        atLeast();
        justEdges();
        justRefused();
        spans();
        longestOnes();
        meetings();
        sums();
        sittingOut();
        Check.finish();
    }

    /** The days of JUST one by one, with one call more behind them. */
    private static void justIs(CaveYears x, int[] query, boolean atLeast, int... parts) {
        String what = "just(" + query[0] + ", " + query[1] + ", " + query[2] + ", " + atLeast + ", ";
        Check.due(what + "-1)", x.just(query[0], query[1], query[2], atLeast, -1), parts.length == 0 ? -1 : parts.length);
        for (int i = 0; i < parts.length; i++) {
            Check.due(what + i + ")", x.just(query[0], query[1], query[2], atLeast, i), parts[i]);
        }
        Check.due(what + parts.length + ")", x.just(query[0], query[1], query[2], atLeast, parts.length), -1);
    }

    private static int[] query(int from, int to, int t) {
        return new int[] {from, to, t};
    }

    private static void justOnes() {
        CaveYears x = Check.caveOf(CAVE);
        justIs(x, query(0, 0, 60), false, 0);
        justIs(x, query(0, 0, 59), false);
        justIs(x, query(0, 0, 61), false);
        justIs(x, query(0, 0, 0), false);
        justIs(x, query(0, 0, 120), false, 0, 0);
        justIs(x, query(0, 0, 210), false, 0, 1, 0);
        justIs(x, query(0, 2, 165), false, 0, 1, 2);
        justIs(x, query(2, 0, 165), false, 2, 1, 0);
        justIs(x, query(2, 2, 120), false, 2, 1, 2);
        justIs(x, query(2, 2, 30), false, 2, 2);
        justIs(x, query(2, 2, 7), false);
        justIs(x, query(0, 2, 75), false);
    }

    private static void theFirstOfLikeOnes() {
        CaveYears x = Check.caveOf(CAVE);
        justIs(x, query(0, 0, 240), false, 0, 0, 0, 0);
        justIs(x, query(0, 0, 300), false, 0, 1, 1, 0);
        // 0 0 1 0, 0 1 0 0, and no way to 3 in four days back to 0.
        justIs(x, query(0, 0, 270), false, 0, 0, 1, 0);
        justIs(x, query(0, 0, 360), false, 0, 0, 1, 1, 0);
    }

    private static void atLeast() {
        CaveYears x = Check.caveOf(CAVE);
        justIs(x, query(0, 0, 0), true, 0);
        justIs(x, query(0, 0, 60), true, 0);
        justIs(x, query(0, 0, 61), true, 0, 0);
        justIs(x, query(0, 0, 120), true, 0, 0);
        justIs(x, query(0, 0, 121), true, 0, 0, 0);
        justIs(x, query(0, 0, 181), true, 0, 1, 0);
        justIs(x, query(0, 0, 240), true, 0, 0, 0, 0);
        justIs(x, query(0, 0, 241), true, 0, 0, 1, 0);
        justIs(x, query(0, 2, 0), true, 0, 1, 2);
        justIs(x, query(2, 2, 200), true, 2, 1, 1, 2);
    }

    private static void justEdges() {
        CaveYears x = Check.caveOf("part 1 6;part 9 1;mouth 0;mouth 1;");
        Check.due("forty days", x.just(0, 0, 400, false, -1), 40);
        Check.due("the fortieth", x.just(0, 0, 400, false, 39), 0);
        Check.due("behind it", x.just(0, 0, 400, false, 40), -1);
        Check.due("41 days", x.just(0, 0, 410, false, -1), -1);
        Check.due("forty at least", x.just(0, 0, 391, true, -1), 40);
        Check.due("41 at least", x.just(0, 0, 401, true, -1), -1);
        Check.due("no way", x.just(0, 1, 550, false, -1), -1);
        Check.due("no way at least", x.just(0, 1, 0, true, -1), -1);
        Check.due("6000 at least", x.just(1, 1, 6000, true, -1), 12);
        Check.due("just 5940", x.just(1, 1, 5940, false, -1), 11);
        CaveYears y = Check.caveOf("part 5 1;mouth 0;");
        Check.due("just 6000", y.just(0, 0, 6000, false, -1), 20);
        Check.due("just 6000, day 19", y.just(0, 0, 6000, false, 19), 0);
        Check.due("i below NONE", y.just(0, 0, 6000, false, -2), -1);
        Check.due("i far below", y.just(0, 0, 6000, true, Integer.MIN_VALUE), -1);
        Check.due("i far above", y.just(0, 0, 6000, true, Integer.MAX_VALUE), -1);
    }

    private static void justRefused() {
        CaveYears x = Check.caveOf(CAVE);
        Check.due("from without a mouth", x.just(1, 0, 60, false, -1), UNKNOWN);
        Check.due("to without a mouth", x.just(0, 3, 60, true, -1), UNKNOWN);
        Check.due("from that there is not", x.just(4, 0, 6001, false, -1), UNKNOWN);
        Check.due("to that there is not", x.just(0, -1, 60, false, -1), UNKNOWN);
        Check.due("t 6001", x.just(0, 0, 6001, false, -1), OUTSIDE);
        Check.due("t -1", x.just(0, 0, -1, true, -1), OUTSIDE);
    }

    private static void spans() {
        CaveYears x = Check.caveOf(CAVE);
        int[][] due = {{0, 0, 1, 60, 60}, {0, 0, 2, 120, 120}, {0, 0, 3, 180, 210}, {0, 0, 4, 240, 300}, {0, 2, 1, -1, -1},
            {0, 2, 2, -1, -1}, {0, 2, 3, 165, 165}, {2, 0, 4, 180, 255}, {2, 2, 1, 15, 15}, {2, 2, 5, 75, 300},
            {2, 2, 40, 600, 30 + 38 * 90}, {0, 0, 40, 120 + 180 + 36 * 15, 120 + 38 * 90}};
        for (int[] d : due) {
            String what = "span(" + d[0] + ", " + d[1] + ", " + d[2] + ", ";
            Check.due(what + "0)", x.span(d[0], d[1], d[2], 0), d[3]);
            Check.due(what + "1)", x.span(d[0], d[1], d[2], 1), d[4]);
        }
        Check.due("from without a mouth", x.span(1, 0, 0, 0), UNKNOWN);
        Check.due("to that there is not", x.span(0, 7, 1, 5), UNKNOWN);
        Check.due("d 0", x.span(0, 0, 0, 0), OUTSIDE);
        Check.due("d 41", x.span(0, 0, 41, 0), OUTSIDE);
        Check.due("what 2", x.span(0, 0, 1, 2), OUTSIDE);
        Check.due("what -1", x.span(0, 0, 1, -1), OUTSIDE);
    }

    private static void longestOnes() {
        CaveYears x = Check.caveOf(CAVE);
        Check.due("longest(1, 0)", x.longest(1, 0), 0);
        Check.due("longest(1, 1)", x.longest(1, 1), 60);
        Check.due("longest(40, 1)", x.longest(40, 1), 120 + 38 * 90);
        CaveYears y = Check.caveOf("part 1 1;part 9 1;part 2 1;part 4 2;mouth 0;mouth 2;mouth 3;way 0 1;");
        Check.due("two days: of like ones the least", y.longest(2, 0), 2);
        Check.due("two days", y.longest(2, 1), 240);
        Check.due("three days", y.longest(3, 0), 0);
        Check.due("three days' time", y.longest(3, 1), 660);
        Check.due("d 0", y.longest(0, 0), OUTSIDE);
        Check.due("d 41", y.longest(41, 1), OUTSIDE);
        Check.due("what 2", y.longest(1, 2), OUTSIDE);
        Check.due("what -1", y.longest(1, -1), OUTSIDE);
        CaveYears none = Check.caveOf("part 1 1;");
        Check.due("no mouth: the part", none.longest(3, 0), -1);
        Check.due("no mouth: the time", none.longest(3, 1), -1);
    }

    private static void meetings() {
        CaveYears x = Check.caveOf(CAVE);
        x.pass(5);
        Check.due("both up: now", x.meeting(0, 1, 0), 5);
        Check.due("both up: age", x.meeting(0, 1, 1), 1205);
        Check.spendAll(x, 0, 1, 2);
        x.enter(0);
        Check.due("0 till 170", x.meeting(0, 1, 0), 170);
        Check.due("0 is", x.meeting(0, 1, 1), 1205 + 3);
        Check.due("1 is", x.meeting(0, 1, 2), 1800 + 170);
        Check.due("the other way round", x.meeting(1, 0, 1), 1800 + 170);
        Check.spendAll(x, 2);
        x.pass(10);
        x.enter(1);
        Check.due("both down", x.meeting(0, 1, 0), 170);
        Check.due("1, who is out ahead, is", x.meeting(0, 1, 2), 1815 + 1 + 140);
        Check.due("with 2", x.meeting(1, 2, 0), 30);
        Check.due("one twice", x.meeting(1, 1, 0), UNKNOWN);
        Check.due("one twice, what 3", x.meeting(1, 1, 3), UNKNOWN);
        Check.due("q that there is not", x.meeting(3, 1, 0), UNKNOWN);
        Check.due("r that there is not", x.meeting(1, -1, 0), UNKNOWN);
        Check.due("what 3", x.meeting(0, 1, 3), OUTSIDE);
        Check.due("what -1", x.meeting(0, 1, -1), OUTSIDE);
    }

    private static void sums() {
        CaveYears x = Check.caveOf(CAVE);
        x.pass(50);
        Check.due("now", x.sum(0, 50), 100);
        Check.due("at 59", x.sum(0, 59), 100);
        Check.due("at 60", x.sum(0, 60), 110);
        Check.due("at 179", x.sum(0, 179), 121);
        Check.due("at 240", x.sum(0, 240), 146);
        Check.due("what gains nothing", x.sum(1, 9999999), 7);
        Check.due("no sum", x.sum(2, 9999999), 0);
        Check.due("the most", x.sum(0, 9999999), 999999999);
        Check.due("the sum is as it was", x.person(0, 1), 100);
        Check.due("a date ahead", x.sum(0, 49), OUTSIDE);
        Check.due("a date beyond", x.sum(0, 10000000), OUTSIDE);
        Check.due("nobody", x.sum(3, 0), UNKNOWN);
        Check.due("nobody -1", x.sum(-1, 60), UNKNOWN);
        x.pass(10);
        Check.due("from a whole year on", x.sum(0, 60), 110);
    }

    private static void sittingOut() {
        CaveYears x = Check.caveOf(CAVE);
        // 540 ticks: 0 1 1 1 1 1 0 has 570, one day less 480.
        Check.due("sitOut(0)", x.sitOut(0), 7);
        Check.due("sitOut(2)", x.sitOut(2), 8);
        Check.due("sitOut(1)", x.sitOut(1), UNKNOWN);
        Check.due("sitOut(4)", x.sitOut(4), UNKNOWN);
        Check.due("sitOut(-1)", x.sitOut(-1), UNKNOWN);
        x.pass(60);
        Check.due("480 ticks just", x.sitOut(0), 6);
        x.pass(300);
        Check.due("the winter begins now", x.sitOut(0), 3);
        x.pass(1);
        Check.due("it has begun", x.sitOut(0), 0);
        CaveYears y = Check.caveOf("part 1 1;mouth 0;");
        Check.due("no winters", y.sitOut(0), 0);
        CaveYears z = Check.caveOf("part 1 1;mouth 0;winter 5 9;winter 31 9;winter 1 1;");
        Check.due("forty years", z.sitOut(0), 40);
        CaveYears w = Check.caveOf("part 1 1;mouth 0;winter 32 9;");
        Check.due("41 years", w.sitOut(0), -1);
        w.pass(60);
        Check.due("forty of them left", w.sitOut(0), 40);
        CaveYears most = Check.caveOf("part 9 1;mouth 0;winter 90 9;");
        Check.due("99 years", most.sitOut(0), 11);
    }
}
