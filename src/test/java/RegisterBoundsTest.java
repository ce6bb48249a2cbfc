/** TRIED, FITS, REGISTERS, FEWEST, and Promises 20 to 25: a test for each sentence that names a bound. */
public final class RegisterBoundsTest {
    private static final int OUTSIDE = CaveYears.OUTSIDE, FULL = CaveYears.FULL;

    public static void main(String[] args) {
        tryOutItsNumbers();
        tenTriedAtMost();
        partsByWhichAllIsSo();
        linesAndTheirNumbers();
        eightLinesAtMost();
        asOldAtLeastAndNoOlder();
        ofOneDateOfOneAge();
        canBeOneRefused();
        fewestOfNoneOneAndEight();
        anyTwoLinesOfOneMan();
        theFirstOfAllSuchWays();
        fewestRefused();
        tornEmptyAndFull();
        Check.finish();
    }

    /** "d DAYS (1 .. 40)", "t 0 .. 99999", "OUTSIDE". */
    private static void tryOutItsNumbers() {
        int[][] taken = {{1, 0}, {40, 0}, {1, 99999}, {40, 99999}};
        for (int[] n : taken) {
            Check.due("tryOut(" + n[0] + ", " + n[1] + ")", new CaveYears().tryOut(n[0], n[1]), 1);
            Check.due("of a busy one", States.busy().tryOut(n[0], n[1]), 3);
        }
        int[][] outside = {{0, 60}, {41, 60}, {-1, 60}, {1, -1}, {1, 100000}, {0, -1}, {41, 100000},
            {Integer.MIN_VALUE, 60}, {Integer.MAX_VALUE, 60}, {1, Integer.MIN_VALUE}, {1, Integer.MAX_VALUE}};
        for (int[] n : outside) {
            String what = "tryOut(" + n[0] + ", " + n[1] + ")";
            Check.refused(what, States::busy, x -> x.tryOut(n[0], n[1]), OUTSIDE);
            Check.refused(what + " of a bare one", States::bare, x -> x.tryOut(n[0], n[1]), OUTSIDE);
            Check.refused("OUTSIDE ahead of FULL: " + what, States::full, x -> x.tryOut(n[0], n[1]), OUTSIDE);
        }
    }

    private static CaveYears triedOut(int count) {
        CaveYears x = Check.caveOf(States.CAVE);
        for (int k = 1; k <= count; k++) {
            Check.due("TRIED " + k, x.tryOut(k, 60 * k), k);
        }
        return x;
    }

    /** "TRIED (10 at most)", "FULL (10)". */
    private static void tenTriedAtMost() {
        Check.due("the tenth", triedOut(9).tryOut(1, 60), 10);
        Check.due("all ten fit", triedOut(10).fits(), 9);
        CaveYears last = triedOut(9);
        last.tryOut(1, 61);
        Check.due("all but the tenth", last.fits(), 0);
        Check.refused("the eleventh", () -> triedOut(10), x -> x.tryOut(1, 61), FULL);
        Check.refused("the eleventh of a full one", States::full, x -> x.tryOut(40, 99999), FULL);
        CaveYears x = triedOut(10);
        x.tear();
        Check.due("the first behind tear()", x.tryOut(1, 90), 1);
        Check.due("it alone", x.fits(), 2);
    }

    /** "FITS: PARTS by which all TRIED is so (a SET)". */
    private static void partsByWhichAllIsSo() {
        Check.due("no PARTS, nothing TRIED", new CaveYears().fits(), 0);
        CaveYears none = new CaveYears();
        none.tryOut(1, 0);
        Check.due("no PARTS", none.fits(), 0);
        Check.due("nothing TRIED: all", Check.caveOf(States.CAVE).fits(), 15);
        Check.due("nothing TRIED: all seven", Check.caveOf(States.PARTS_7).fits(), 127);
        CaveYears x = Check.caveOf("part 9 1;part 1 6;part 1 1;");
        int[][] tried = {{1, 540, 1}, {40, 21600, 1}, {1, 10, 2}, {40, 400, 2}, {2, 119, 0}, {2, 120, 4}, {2, 121, 0}, {1, 0, 0}, {40, 99999, 0}};
        for (int[] t : tried) {
            x.tear();
            x.tryOut(t[0], t[1]);
            Check.due(t[0] + " DAYS, " + t[1] + " TICKS", x.fits(), t[2]);
        }
        x.tear();
        x.tryOut(6, 60);
        x.tryOut(1, 10);
        Check.due("both by one", x.fits(), 2);
        x.tryOut(1, 60);
        Check.due("all by none", x.fits(), 0);
    }

    /** "a DATE in YEARS, 0 .. 500, an AGE in YEARS, 0 .. 200", "OUTSIDE". */
    private static void linesAndTheirNumbers() {
        int[][] taken = {{0, 0}, {500, 0}, {0, 200}, {500, 200}};
        for (int[] n : taken) {
            Check.due("line(" + n[0] + ", " + n[1] + ")", new CaveYears().line(n[0], n[1]), 1);
            Check.due("of a busy one", States.busy().line(n[0], n[1]), 4);
        }
        int[][] outside = {{-1, 0}, {501, 0}, {0, -1}, {0, 201}, {-1, -1}, {501, 201}, {Integer.MIN_VALUE, 0},
            {Integer.MAX_VALUE, 0}, {0, Integer.MIN_VALUE}, {0, Integer.MAX_VALUE}};
        for (int[] n : outside) {
            String what = "line(" + n[0] + ", " + n[1] + ")";
            Check.refused(what, States::busy, x -> x.line(n[0], n[1]), OUTSIDE);
            Check.refused(what + " of a bare one", States::bare, x -> x.line(n[0], n[1]), OUTSIDE);
            Check.refused("OUTSIDE ahead of FULL: " + what, States::full, x -> x.line(n[0], n[1]), OUTSIDE);
        }
    }

    private static CaveYears registered(int count) {
        CaveYears x = new CaveYears();
        for (int k = 1; k <= count; k++) {
            Check.due("line " + k, x.line(5, k), k);
        }
        return x;
    }

    /** "REGISTERS (8 lines at most)", "FULL (8)". */
    private static void eightLinesAtMost() {
        Check.due("the eighth", registered(7).line(5, 1), 8);
        Check.refused("the ninth", () -> registered(8), x -> x.line(5, 1), FULL);
        Check.refused("the ninth of a full one", States::full, x -> x.line(0, 0), FULL);
        CaveYears x = registered(8);
        x.tear();
        Check.due("the first behind tear()", x.line(500, 200), 1);
        Check.due("one man", x.fewest(-1), 1);
    }

    private static int oneMan(int date, int age, int laterDate, int laterAge) {
        CaveYears x = new CaveYears();
        x.line(date, age);
        x.line(laterDate, laterAge);
        int one = x.canBeOne(0, 1);
        Check.due("turned round", x.canBeOne(1, 0), one);
        CaveYears y = new CaveYears();
        y.line(laterDate, laterAge);
        y.line(date, age);
        Check.due("told the other way round", y.canBeOne(0, 1), one);
        return one;
    }

    /** "if the later is as old at least, and no older than as many YEARS as lie between more". */
    private static void asOldAtLeastAndNoOlder() {
        Check.due("a YEAR younger", oneMan(10, 30, 15, 29), 0);
        Check.due("as old", oneMan(10, 30, 15, 30), 1);
        Check.due("as many YEARS older", oneMan(10, 30, 15, 35), 1);
        Check.due("a YEAR more than that", oneMan(10, 30, 15, 36), 0);
        Check.due("a YEAR on, as old", oneMan(10, 30, 11, 30), 1);
        Check.due("a YEAR on, a YEAR older", oneMan(10, 30, 11, 31), 1);
        Check.due("a YEAR on, two older", oneMan(10, 30, 11, 32), 0);
        Check.due("from end to end", oneMan(0, 0, 500, 200), 1);
        Check.due("from end to end, younger", oneMan(0, 200, 500, 199), 0);
        Check.due("200 YEARS, 200 older", oneMan(0, 0, 200, 200), 1);
        Check.due("199 YEARS, 200 older", oneMan(0, 0, 199, 200), 0);
    }

    /** "(of one DATE: of one AGE)". */
    private static void ofOneDateOfOneAge() {
        for (int date : new int[] {0, 10, 500}) {
            Check.due("one AGE", oneMan(date, 30, date, 30), 1);
            Check.due("a YEAR older", oneMan(date, 30, date, 31), 0);
            Check.due("a YEAR younger", oneMan(date, 30, date, 29), 0);
        }
    }

    /** canBeOne(): "OUTSIDE (lines that there are not, one twice)". */
    private static void canBeOneRefused() {
        Check.due("the last of three", States.busy().canBeOne(0, 2), 0);
        Check.due("the last of eight", States.full().canBeOne(7, 0), 1);
        for (int a : new int[] {-1, 3, 7, 8, Integer.MIN_VALUE, Integer.MAX_VALUE}) {
            Check.refused("canBeOne(" + a + ", 0)", States::busy, x -> x.canBeOne(a, 0), OUTSIDE);
            Check.refused("canBeOne(2, " + a + ")", States::busy, x -> x.canBeOne(2, a), OUTSIDE);
            Check.refused("canBeOne(" + a + ", " + a + ")", States::busy, x -> x.canBeOne(a, a), OUTSIDE);
        }
        for (int a = 0; a < 8; a++) {
            int one = a;
            Check.refused("one twice: " + a, States::full, x -> x.canBeOne(one, one), OUTSIDE);
            Check.refused("line 8 of eight", States::full, x -> x.canBeOne(one, 8), OUTSIDE);
        }
        Check.refused("lines 0 and 1 of none", States::bare, x -> x.canBeOne(0, 1), OUTSIDE);
        Check.refused("lines 0 and 1 of one", () -> registered(1), x -> x.canBeOne(0, 1), OUTSIDE);
    }

    private static void men(CaveYears x, int count, int... men) {
        Check.due("how many", x.fewest(-1), count);
        for (int i = 0; i < men.length; i++) {
            Check.due("the man of line " + i, x.fewest(i), men[i]);
        }
    }

    /** No lines: nobody; eight: from one man to eight. */
    private static void fewestOfNoneOneAndEight() {
        men(new CaveYears(), 0);
        men(registered(1), 1, 0);
        men(registered(8), 8, 0, 1, 2, 3, 4, 5, 6, 7);
        men(States.full(), 1, 0, 0, 0, 0, 0, 0, 0, 0);
        CaveYears x = new CaveYears();
        for (int k = 0; k < 8; k++) {
            x.line(9, 20);
        }
        men(x, 1, 0, 0, 0, 0, 0, 0, 0, 0);
    }

    /** "(any two lines of one man CAN BE ONE)": not only those that follow one another. */
    private static void anyTwoLinesOfOneMan() {
        CaveYears x = new CaveYears();
        x.line(10, 30);
        x.line(20, 30);
        x.line(5, 29);
        men(x, 1, 0, 0, 0);
        CaveYears y = new CaveYears();
        y.line(10, 30);
        y.line(0, 25);
        y.line(0, 24);
        men(y, 2, 0, 0, 1);
        // 0 and 2 can't be one, though 1 can with both.
        CaveYears z = new CaveYears();
        z.line(0, 10);
        z.line(10, 12);
        z.line(0, 9);
        Check.due("0 and 1", z.canBeOne(0, 1), 1);
        Check.due("1 and 2", z.canBeOne(1, 2), 1);
        Check.due("0 and 2", z.canBeOne(0, 2), 0);
        men(z, 2, 0, 0, 1);
    }

    /** "people numbered as their first lines come: of all such ways the first (line by line the lesser number)". */
    private static void theFirstOfAllSuchWays() {
        CaveYears x = new CaveYears();
        x.line(0, 10);
        x.line(0, 12);
        x.line(10, 15);
        men(x, 2, 0, 1, 0);
        x.line(10, 11);
        // Line 3 can be man 0 alone, so that line 2 has to be man 1 for two to do.
        men(x, 2, 0, 1, 1, 0);
        CaveYears y = new CaveYears();
        y.line(3, 7);
        y.line(3, 5);
        y.line(3, 6);
        men(y, 3, 0, 1, 2);
    }

    /** fewest(): "OUTSIDE: not so many lines". */
    private static void fewestRefused() {
        Check.due("the last of three", States.busy().fewest(2), 1);
        Check.due("the last of eight", registered(8).fewest(7), 7);
        for (int i : new int[] {3, 7, 8, -2, Integer.MIN_VALUE, Integer.MAX_VALUE}) {
            Check.refused("fewest(" + i + ")", States::busy, x -> x.fewest(i), OUTSIDE);
        }
        Check.refused("fewest(8) of eight", States::full, x -> x.fewest(8), OUTSIDE);
        Check.refused("fewest(0) of none", States::bare, x -> x.fewest(0), OUTSIDE);
    }

    /** "Nothing is TRIED, no REGISTERS: how many both had." */
    private static void tornEmptyAndFull() {
        Check.due("of none", new CaveYears().tear(), 0);
        Check.due("of TRIED alone", triedOut(10).tear(), 10);
        Check.due("of lines alone", registered(8).tear(), 8);
        CaveYears x = States.full();
        Check.due("of both", x.tear(), 18);
        Check.due("TRIED", x.told(10), 0);
        Check.due("lines", x.told(11), 0);
        Check.due("FITS", x.fits(), 127);
        Check.due("FEWEST", x.fewest(-1), 0);
        Check.due("again", x.tear(), 0);
        Check.due("THE STAY is as it was", x.told(8), 40);
        Check.due("THE DATE is as it was", x.told(6), 100);
    }
}
