/** Promises 20 to 25: what was tried, lines of registers, the fewest people. */
public final class RegistersTest {
    private static final int OUTSIDE = CaveYears.OUTSIDE, FULL = CaveYears.FULL;

    public static void main(String[] args) {
        tried();
        lines();
        oneMan();
        fewestPeople();
        theFirstWay();
        torn();
        Check.finish();
    }

    private static void tried() {
        CaveYears x = Check.caveOf("part 1 1;part 3 2;part 2 2;part 9 1;");
        Check.due("nothing tried", x.fits(), 15);
        Check.due("tryOut(0, 0)", x.tryOut(0, 0), OUTSIDE);
        Check.due("tryOut(41, 0)", x.tryOut(41, 0), OUTSIDE);
        Check.due("tryOut(1, -1)", x.tryOut(1, -1), OUTSIDE);
        Check.due("tryOut(1, 100000)", x.tryOut(1, 100000), OUTSIDE);
        Check.due("told(10)", x.told(10), 0);
        Check.due("tryOut(3, 180)", x.tryOut(3, 180), 1);
        Check.due("fits()", x.fits(), 5);
        Check.due("tryOut(40, 2400)", x.tryOut(40, 2400), 2);
        Check.due("fits() of both", x.fits(), 5);
        Check.due("tryOut(1, 90)", x.tryOut(1, 90), 3);
        Check.due("fits() of none", x.fits(), 0);
        for (int k = 4; k <= 10; k++) {
            Check.due("tryOut " + k, x.tryOut(1, 99999), k);
        }
        Check.due("an eleventh", x.tryOut(1, 0), FULL);
        Check.due("an eleventh outside", x.tryOut(41, 0), OUTSIDE);
        Check.due("told(10)", x.told(10), 10);
        CaveYears y = new CaveYears();
        Check.due("with no parts", y.tryOut(1, 60), 1);
        Check.due("fits() with no parts", y.fits(), 0);
        CaveYears z = Check.caveOf("part 9 1;part 3 2;");
        z.tryOut(40, 21600);
        Check.due("forty days", z.fits(), 1);
        z.tear();
        z.tryOut(2, 180);
        Check.due("two days", z.fits(), 2);
    }

    private static void lines() {
        CaveYears x = new CaveYears();
        Check.due("line(-1, 0)", x.line(-1, 0), OUTSIDE);
        Check.due("line(501, 0)", x.line(501, 0), OUTSIDE);
        Check.due("line(0, -1)", x.line(0, -1), OUTSIDE);
        Check.due("line(0, 201)", x.line(0, 201), OUTSIDE);
        Check.due("line(500, 200)", x.line(500, 200), 1);
        Check.due("line(0, 0)", x.line(0, 0), 2);
        for (int k = 3; k <= 8; k++) {
            Check.due("line " + k, x.line(k, k), k);
        }
        Check.due("a ninth", x.line(1, 1), FULL);
        Check.due("a ninth outside", x.line(1, 201), OUTSIDE);
        Check.due("told(11)", x.told(11), 8);
    }

    private static void both(CaveYears x, int a, int b, int want) {
        Check.due("canBeOne(" + a + ", " + b + ")", x.canBeOne(a, b), want);
        Check.due("canBeOne(" + b + ", " + a + ")", x.canBeOne(b, a), want);
    }

    private static void oneMan() {
        CaveYears x = new CaveYears();
        Check.due("with no lines", x.canBeOne(0, 1), OUTSIDE);
        int[][] lines = {{10, 30}, {12, 30}, {12, 32}, {12, 33}, {12, 29}, {10, 30}, {10, 31}, {0, 30}};
        for (int[] l : lines) {
            x.line(l[0], l[1]);
        }
        both(x, 0, 1, 1);
        both(x, 0, 2, 1);
        both(x, 0, 3, 0);
        both(x, 0, 4, 0);
        both(x, 0, 5, 1);
        both(x, 0, 6, 0);
        both(x, 0, 7, 1);
        both(x, 6, 7, 1);
        both(x, 4, 7, 0);
        Check.due("one twice", x.canBeOne(3, 3), OUTSIDE);
        Check.due("canBeOne(0, 8)", x.canBeOne(0, 8), OUTSIDE);
        Check.due("canBeOne(-1, 0)", x.canBeOne(-1, 0), OUTSIDE);
    }

    private static void menAre(CaveYears x, int count, int... men) {
        Check.due("fewest(-1)", x.fewest(-1), count);
        for (int i = 0; i < men.length; i++) {
            Check.due("fewest(" + i + ")", x.fewest(i), men[i]);
        }
        Check.due("fewest behind all", x.fewest(men.length), OUTSIDE);
        Check.due("fewest(-2)", x.fewest(-2), OUTSIDE);
    }

    private static void fewestPeople() {
        CaveYears x = new CaveYears();
        menAre(x, 0);
        x.line(10, 30);
        menAre(x, 1, 0);
        x.line(10, 31);
        menAre(x, 2, 0, 1);
        x.line(20, 30);
        menAre(x, 2, 0, 1, 0);
        x.line(5, 25);
        menAre(x, 2, 0, 1, 0, 0);
        for (int k = 0; k < 4; k++) {
            x.line(10, 40 + k);
        }
        menAre(x, 6, 0, 1, 0, 0, 2, 3, 4, 5);
        x.tear();
        for (int k = 0; k < 8; k++) {
            x.line(7, 7 + k);
        }
        menAre(x, 8, 0, 1, 2, 3, 4, 5, 6, 7);
    }

    /** To go with the first man that a line can be is one man too many here. */
    private static void theFirstWay() {
        CaveYears x = new CaveYears();
        x.line(0, 10);
        x.line(0, 12);
        x.line(10, 15);
        x.line(10, 11);
        menAre(x, 2, 0, 1, 1, 0);
        CaveYears y = new CaveYears();
        y.line(0, 10);
        y.line(0, 12);
        y.line(10, 15);
        y.line(10, 16);
        menAre(y, 2, 0, 1, 0, 1);
    }

    private static void torn() {
        CaveYears x = Check.caveOf("part 1 1;");
        Check.due("tear() of nothing", x.tear(), 0);
        x.tryOut(1, 1);
        x.tryOut(1, 1);
        x.line(1, 1);
        Check.due("tear()", x.tear(), 3);
        Check.due("tried", x.told(10), 0);
        Check.due("lines", x.told(11), 0);
        Check.due("fits()", x.fits(), 1);
        Check.due("fewest(-1)", x.fewest(-1), 0);
        Check.due("line behind it", x.line(1, 1), 1);
        Check.due("tryOut behind it", x.tryOut(1, 60), 1);
        Check.due("tear() again", x.tear(), 2);
    }
}
