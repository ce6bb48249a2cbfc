/** Promises 8 to 13: days told, judged, gone in for; ticks that pass; days by draws. */
public final class StaysTest {
    private static final int UNKNOWN = CaveYears.UNKNOWN, OUTSIDE = CaveYears.OUTSIDE, NOT = CaveYears.NOT, FULL = CaveYears.FULL;
    private static final String CAVE = "part 1 1;part 3 2;part 1 4;part 2 1;mouth 0;mouth 2;way 0 1;way 1 2;way 1 3;"
            + "person 20 100;person 30 7;interest 10;";

    public static void main(String[] args) {
        spending();
        forgetting();
        judging();
        entering();
        passing();
        sumsByYears();
        drifting();
        driftingByHand();
        Check.finish();
    }

    private static void spending() {
        CaveYears x = Check.caveOf(CAVE);
        Check.due("spend(4)", x.spend(4), UNKNOWN);
        Check.due("spend(-1)", x.spend(-1), UNKNOWN);
        int time = 0;
        for (int k = 1; k <= 40; k++) {
            Check.due("spend " + k, x.spend(k % 4), k);
            time += x.part(k % 4, 0);
            Check.due("time of " + k, x.told(9), time);
        }
        Check.due("a 41st day", x.spend(0), FULL);
        Check.due("a 41st day in no part", x.spend(4), UNKNOWN);
        Check.due("days", x.told(8), 40);
        Check.due("time", x.told(9), time);
    }

    private static void forgetting() {
        CaveYears x = Check.caveOf(CAVE);
        Check.spendAll(x, 0, 1, 1);
        Check.due("forget()", x.forget(), 3);
        Check.due("days", x.told(8), 0);
        Check.due("time", x.told(9), 0);
        Check.due("forget() again", x.forget(), 0);
        Check.due("spend after forget", x.spend(2), 1);
        Check.due("its time", x.told(9), 15);
    }

    private static void judged(CaveYears x, int want, int... parts) {
        Check.spendAll(x, parts);
        Check.due("judge() of " + java.util.Arrays.toString(parts), x.judge(), want);
    }

    private static void judging() {
        CaveYears x = Check.caveOf(CAVE);
        judged(x, -1);
        judged(x, -1, 0);
        judged(x, 0, 1);
        judged(x, 0, 3, 0);
        judged(x, -1, 0, 0, 0);
        judged(x, 1, 0, 2);
        judged(x, 1, 0, 2, 3);
        judged(x, 2, 0, 1);
        judged(x, 3, 0, 1, 3);
        judged(x, 3, 0, 1, 3, 2);
        judged(x, -1, 0, 1, 3, 3, 1, 2);
        judged(x, 5, 0, 1, 3, 1, 1);
        judged(x, 3, 2, 1, 0, 3);
    }

    private static void entering() {
        CaveYears x = Check.caveOf(CAVE);
        Check.due("enter with no stay", x.enter(0), NOT);
        Check.due("enter(2) with no stay", x.enter(2), UNKNOWN);
        Check.spendAll(x, 0, 1);
        Check.due("enter for a wrong stay", x.enter(0), NOT);
        Check.due("nobody is down", x.told(7), 0);
        Check.spendAll(x, 0, 1, 3, 1, 2);
        x.pass(7);
        Check.due("enter(0)", x.enter(0), 7 + 60 + 90 + 120 + 90 + 15);
        Check.due("the stay is told yet", x.told(8), 5);
        Check.due("enter(0) who is down", x.enter(0), NOT);
        Check.due("enter(-1)", x.enter(-1), UNKNOWN);
        Check.due("enter(1)", x.enter(1), 382);
        Check.due("down", x.told(7), 3);
        Check.due("age 0", x.person(0, 0), 1200 + 7 + 5);
        Check.due("date", x.told(6), 7);
        x.pass(374);
        Check.due("down yet", x.told(7), 3);
        Check.due("age 0 yet", x.person(0, 0), 1212);
        x.pass(1);
        Check.due("up", x.told(7), 0);
        Check.due("out", x.person(0, 2), -1);
        Check.due("age at once", x.person(0, 0), 1212);
        Check.due("enter(0) again", x.enter(0), 382 + 375);
        x.pass(400);
        Check.due("age after some ticks up here", x.person(0, 0), 1212 + 5 + 25);
        Check.due("age of the other", x.person(1, 0), 1800 + 7 + 5 + 400);
    }

    private static void passing() {
        CaveYears x = Check.caveOf(CAVE);
        Check.due("pass(0)", x.pass(0), OUTSIDE);
        Check.due("pass(-1)", x.pass(-1), OUTSIDE);
        Check.due("pass(10000)", x.pass(10000), OUTSIDE);
        Check.due("pass max", x.pass(Integer.MAX_VALUE), OUTSIDE);
        Check.due("date", x.told(6), 0);
        Check.due("pass(1)", x.pass(1), 1);
        Check.due("pass(9999)", x.pass(9999), 10000);
        Check.due("age", x.person(0, 0), 1200 + 10000);
        CaveYears empty = new CaveYears();
        Check.due("pass with no persons", empty.pass(3), 3);
    }

    private static void sumsByYears() {
        CaveYears x = Check.caveOf("part 1 1;person 0 99;person 0 9;interest 10;");
        x.pass(59);
        Check.due("sum at 59", x.person(0, 1), 99);
        x.pass(1);
        Check.due("sum at 60: cut", x.person(0, 1), 108);
        Check.due("a sum that gains nothing", x.person(1, 1), 9);
        x.pass(120);
        Check.due("sum at 180", x.person(0, 1), 129);
        CaveYears none = Check.caveOf("part 1 1;person 0 99;");
        none.pass(9999);
        Check.due("sum with no interest", none.person(0, 1), 99);
        CaveYears much = Check.caveOf("part 1 1;person 0 999;interest 50;");
        much.pass(60 * 34);
        Check.due("sum after 34 years", much.person(0, 1), 969178164);
        much.pass(60);
        Check.due("sum after 35 years", much.person(0, 1), 999999999);
        much.pass(60);
        Check.due("sum after 36 years", much.person(0, 1), 999999999);
    }

    private static void drifting() {
        CaveYears x = new CaveYears();
        Check.due("drift(0) with no parts", x.drift(0), OUTSIDE);
        Check.due("drift(100) with no parts", x.drift(100), OUTSIDE);
        Check.due("drift(1) with no parts", x.drift(1), NOT);
        Check.due("drift(1) with no persons", Check.caveOf("part 1 1;").drift(1), NOT);
        Check.due("drift(1) with persons alone", Check.caveOf("person 1 1;").drift(1), NOT);
        CaveYears y = Check.caveOf(CAVE);
        Check.spendAll(y, 0, 1);
        int seed = y.seed(5);
        Check.due("the seed of a new one", seed, 0);
        Check.due("drift(-1)", y.drift(-1), OUTSIDE);
        Check.due("drift(100)", y.drift(100), OUTSIDE);
        Check.due("the seed is as it was", y.seed(5), 5);
        y.drift(3);
        Check.due("the stay stays told", y.told(8), 2);
        CaveYears z = Check.caveOf(CAVE);
        z.seed(5);
        z.drift(1);
        z.drift(1);
        Check.due("one by one is as three at once", z.drift(1), y.told(6));
        Check.due("their seeds", z.seed(0), y.seed(0));
    }

    /** One draw after the other, as the words of BY DRAWS have it. */
    private static void driftingByHand() {
        for (int first = 0; first < 300; first++) {
            CaveYears x = Check.caveOf(CAVE);
            x.seed(first * 7919);
            long seed = first * 7919L;
            int[] out = {0, 0};
            int date = 0;
            for (int k = 0; k < 12; k++) {
                seed = (seed * 1103515245L + 12345L) % 2147483648L;
                int q = (int) (seed / 65536 % 2);
                if (out[q] <= date) {
                    seed = (seed * 1103515245L + 12345L) % 2147483648L;
                    int p = (int) (seed / 65536 % 4);
                    seed = (seed * 1103515245L + 12345L) % 2147483648L;
                    int days = (int) (seed / 65536 % 9) + 1;
                    if (p == 0 || p == 2) {
                        out[q] = date + days * (p == 0 ? 60 : 15);
                    }
                }
                seed = (seed * 1103515245L + 12345L) % 2147483648L;
                date += (int) (seed / 65536 % 60);
                Check.due("drift(1)", x.drift(1), date);
                Check.due("out 0", x.person(0, 2), out[0] > date ? out[0] : -1);
                Check.due("out 1", x.person(1, 2), out[1] > date ? out[1] : -1);
            }
            Check.due("the seed in the end", x.seed(0), seed);
        }
    }
}
