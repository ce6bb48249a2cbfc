import java.util.Random;

/** Promises 23, 24 against all ways to give lines to men. */
public final class FewestOracleTest {
    private static int[][] lines;
    private static int[] best;
    private static int bestMen;

    public static void main(String[] args) {
        Random random = new Random(3);
        for (int k = 0; k < 400; k++) {
            compare(1 + random.nextInt(8), 1 + random.nextInt(12), 1 + random.nextInt(10), random);
        }
        Check.finish();
    }

    static boolean canBeOne(int[] a, int[] b) {
        int[] early = a[0] <= b[0] ? a : b;
        int[] late = a[0] <= b[0] ? b : a;
        if (early[0] == late[0]) {
            return early[1] == late[1];
        }
        return late[1] >= early[1] && late[1] <= early[1] + late[0] - early[0];
    }

    private static void compare(int count, int dates, int ages, Random random) {
        CaveYears x = new CaveYears();
        int[][] told = new int[count][];
        for (int i = 0; i < count; i++) {
            told[i] = new int[] {random.nextInt(dates), random.nextInt(ages)};
            Check.due("line", x.line(told[i][0], told[i][1]), i + 1);
        }
        firstOfFewest(told);
        Check.due("fewest", x.fewest(-1), bestMen);
        for (int i = 0; i < count; i++) {
            Check.due("man of " + i, x.fewest(i), best[i]);
            for (int k = 0; k < count; k++) {
                Check.due("canBeOne", x.canBeOne(i, k), i == k ? CaveYears.OUTSIDE : canBeOne(lines[i], lines[k]) ? 1 : 0);
            }
        }
    }

    /** The man of each line. */
    static int[] firstOfFewest(int[][] told) {
        lines = told;
        bestMen = 99;
        goThrough(new int[told.length], 0, 0);
        return best;
    }

    /** The ways come in their order, so that one of as few men as the best is a later one. */
    private static void goThrough(int[] men, int i, int used) {
        if (i == men.length) {
            if (used < bestMen && allCan(men)) {
                bestMen = used;
                best = men.clone();
            }
            return;
        }
        for (int m = 0; m <= used; m++) {
            men[i] = m;
            goThrough(men, i + 1, Math.max(used, m + 1));
        }
    }

    private static boolean allCan(int[] men) {
        for (int a = 0; a < men.length; a++) {
            for (int b = 0; b < a; b++) {
                if (men[a] == men[b] && !canBeOne(lines[a], lines[b])) {
                    return false;
                }
            }
        }
        return true;
    }
}
