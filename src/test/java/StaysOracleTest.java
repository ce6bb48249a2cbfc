import java.util.HashMap;
import java.util.Map;
import java.util.Random;

/** Promises 14, 15, 16, 19 against the first stays found from the front, day by day. */
public final class StaysOracleTest {
    public static void main(String[] args) {
        Random random = new Random(1);
        for (int k = 0; k < 150; k++) {
            shortStays(new RandomCave(random, 4));
        }
        for (int k = 0; k < 60; k++) {
            RandomCave c = new RandomCave(random, 7);
            for (int from = 0; from < c.parts; from++) {
                longStays(c, random, from);
            }
        }
        Check.finish();
    }

    /** All stays of up to five days are gone through, the lesser parts first. */
    private static void shortStays(RandomCave c) {
        CaveYears x = Check.caveOf(c.text);
        for (int d = 1; d <= 5; d++) {
            int bestPart = -1;
            int bestTime = -1;
            for (int from = 0; from < c.parts; from++) {
                for (int to = 0; to < c.parts; to++) {
                    int[] ends = {-1, -1};
                    walk(c, from, to, d, 0, ends);
                    boolean known = c.mouth[from] && c.mouth[to];
                    Check.due("span least of " + c.text, x.span(from, to, d, 0), known ? ends[0] : CaveYears.UNKNOWN);
                    Check.due("span greatest of " + c.text, x.span(from, to, d, 1), known ? ends[1] : CaveYears.UNKNOWN);
                    if (known && from == to && ends[1] > bestTime) {
                        bestTime = ends[1];
                        bestPart = from;
                    }
                }
            }
            Check.due("longest part of " + c.text, x.longest(d, 0), bestPart);
            Check.due("longest time of " + c.text, x.longest(d, 1), bestTime);
        }
    }

    private static void walk(RandomCave c, int p, int to, int left, int time, int[] ends) {
        int now = time + c.rate[p];
        if (left == 1) {
            if (p == to) {
                ends[0] = ends[0] < 0 ? now : Math.min(ends[0], now);
                ends[1] = Math.max(ends[1], now);
            }
            return;
        }
        for (int q = 0; q < c.parts; q++) {
            if (c.mayFollow(p, q)) {
                walk(c, q, to, left - 1, now, ends);
            }
        }
    }

    /** For each part and time the first row of days that comes there: 'a' for part 0, 'b' for part 1. */
    private static Map<Integer, String> firstDay(RandomCave c, int from, int cap) {
        Map<Integer, String> rows = new HashMap<>();
        rows.put(from * 10000 + Math.min(cap, c.rate[from]), "" + (char) ('a' + from));
        return rows;
    }

    private static Map<Integer, String> nextDay(RandomCave c, Map<Integer, String> rows, int cap) {
        Map<Integer, String> next = new HashMap<>();
        for (Map.Entry<Integer, String> row : rows.entrySet()) {
            int p = row.getKey() / 10000;
            int time = row.getKey() % 10000;
            for (int q = 0; q < c.parts; q++) {
                int then = Math.min(cap, time + c.rate[q]);
                if (c.mayFollow(p, q)) {
                    next.merge(q * 10000 + then, row.getValue() + (char) ('a' + q), (a, b) -> a.compareTo(b) < 0 ? a : b);
                }
            }
        }
        return next;
    }

    /** One more than the greatest time asked for stands for all that is more. */
    private static void longStays(RandomCave c, Random random, int from) {
        CaveYears x = Check.caveOf(c.text);
        if (!c.mouth[from]) {
            Check.due("just from no mouth", x.just(from, from, 0, true, -1), CaveYears.UNKNOWN);
            Check.due("sitOut at no mouth", x.sitOut(from), CaveYears.UNKNOWN);
            return;
        }
        int exact = random.nextInt(1500);
        int[] exactTimes = {exact, exact + 1, exact - exact % 5, exact - exact % 10, exact - exact % 30, exact - exact % 60};
        String[][] first = new String[exactTimes.length][c.parts];
        Map<Integer, String> rows = firstDay(c, from, 1501);
        for (int d = 1; d <= 40; d++) {
            for (int k = 0; k < exactTimes.length; k++) {
                for (int to = 0; to < c.parts; to++) {
                    if (first[k][to] == null) {
                        first[k][to] = rows.get(to * 10000 + exactTimes[k]);
                    }
                }
            }
            rows = nextDay(c, rows, 1501);
        }
        for (int k = 0; k < exactTimes.length; k++) {
            justAll(c, from, exactTimes[k], false, first[k]);
        }
        int[] times = {random.nextInt(6001), random.nextInt(600)};
        for (int t : times) {
            justAll(c, from, t, true, firstAtLeast(c, from, t));
        }
        sitOut(c, x, from, random);
    }

    /** On an object of its own, for one object's 512 calls do not do for all times. */
    private static void justAll(RandomCave c, int from, int t, boolean atLeast, String[] first) {
        CaveYears x = Check.caveOf(c.text);
        for (int to = 0; to < c.parts; to++) {
            justIs(c, x, from, to, t, atLeast, first[to]);
        }
    }

    private static String[] firstAtLeast(RandomCave c, int from, int t) {
        String[] first = new String[c.parts];
        Map<Integer, String> rows = firstDay(c, from, t);
        for (int d = 1; d <= 40; d++) {
            for (int to = 0; to < c.parts; to++) {
                if (first[to] == null) {
                    first[to] = rows.get(to * 10000 + t);
                }
            }
            rows = nextDay(c, rows, t);
        }
        return first;
    }

    private static void sitOut(RandomCave c, CaveYears x, int from, Random random) {
        x.pass(1 + random.nextInt(3000));
        int date = x.told(6);
        int end = -1;
        for (int w = 0; w < c.winters; w++) {
            if (c.from[w] * 60 >= date) {
                end = Math.max(end, (c.from[w] + c.on[w]) * 60);
            }
        }
        String row = end < 0 ? "" : firstAtLeast(c, from, end - date)[from];
        Check.due("sitOut(" + from + ") at " + date + " of " + c.text, x.sitOut(from), row == null ? -1 : row.length());
    }

    private static void justIs(RandomCave c, CaveYears x, int from, int to, int t, boolean atLeast, String row) {
        String what = "just(" + from + ", " + to + ", " + t + ", " + atLeast + ") of " + c.text;
        if (!c.mouth[to]) {
            Check.due(what, x.just(from, to, t, atLeast, -1), CaveYears.UNKNOWN);
            return;
        }
        Check.due(what, x.just(from, to, t, atLeast, -1), row == null ? -1 : row.length());
        if (row != null) {
            for (int i = 0; i < row.length(); i++) {
                Check.due(what + " day " + i, x.just(from, to, t, atLeast, i), row.charAt(i) - 'a');
            }
        }
    }
}
