/** Promises 26 to 28: the seed, images kept and gone back to. */
public final class ImagesTest {
    private static final int UNKNOWN = CaveYears.UNKNOWN, OUTSIDE = CaveYears.OUTSIDE, NOT = CaveYears.NOT;
    private static final String CAVE = "part 1 1;part 3 2;mouth 0;way 0 1;person 20 100;person 30 7;interest 10;";

    public static void main(String[] args) {
        seeds();
        images();
        whatNoImageKeeps();
        imagesOfFaultyCaves();
        Check.finish();
    }

    private static void seeds() {
        CaveYears x = new CaveYears();
        Check.due("seed(-1)", x.seed(-1), OUTSIDE);
        Check.due("seed min", x.seed(Integer.MIN_VALUE), OUTSIDE);
        Check.due("seed(2147483647)", x.seed(2147483647), 0);
        Check.due("seed(0)", x.seed(0), 2147483647);
        Check.due("seed(7)", x.seed(7), 0);
        Check.due("seed(8)", x.seed(8), 7);
        CaveYears y = Check.caveOf(CAVE);
        y.seed(2147483647);
        int date = y.drift(99);
        Check.due("drift from the greatest seed", date >= 0 && date <= 99 * 59 ? 1 : 0, 1);
    }

    private static void images() {
        CaveYears x = Check.caveOf(CAVE);
        Check.due("goBack(0) ahead of keep", x.goBack(0), NOT);
        Check.due("goBack(2)", x.goBack(2), UNKNOWN);
        Check.due("goBack(-1)", x.goBack(-1), UNKNOWN);
        Check.due("keep(2)", x.keep(2), UNKNOWN);
        Check.due("keep(-1)", x.keep(-1), UNKNOWN);
        Check.spendAll(x, 0, 1, 0);
        x.seed(11);
        x.pass(70);
        x.enter(0);
        String first = Check.stateOf(x);
        Check.due("keep(0)", x.keep(0), 1);
        Check.due("goBack(1)", x.goBack(1), NOT);
        Check.same("keep changes nothing", Check.stateOf(x), first);
        x.pass(300);
        x.seed(12);
        x.enter(1);
        x.enter(0);
        String second = Check.stateOf(x);
        Check.due("keep(1)", x.keep(1), 1);
        x.drift(50);
        Check.due("goBack(0)", x.goBack(0), 1);
        Check.same("image 0", Check.stateOf(x), first);
        x.drift(3);
        Check.due("goBack(0) again", x.goBack(0), 1);
        Check.same("image 0 again", Check.stateOf(x), first);
        Check.due("goBack(1)", x.goBack(1), 1);
        Check.same("image 1", Check.stateOf(x), second);
        x.keep(0);
        x.pass(1);
        x.goBack(0);
        Check.same("image 0 becomes what is so", Check.stateOf(x), second);
    }

    private static void whatNoImageKeeps() {
        CaveYears x = Check.caveOf(CAVE);
        x.keep(1);
        Check.spendAll(x, 0, 1);
        x.tryOut(1, 60);
        x.line(1, 1);
        x.feed(3, 0x616263);
        x.pass(9);
        x.goBack(1);
        Check.due("date", x.told(6), 0);
        Check.due("bytes", x.told(5), 3);
        Check.due("days", x.told(8), 2);
        Check.due("tried", x.told(10), 1);
        Check.due("lines", x.told(11), 1);
        CaveYears y = new CaveYears();
        y.seed(4);
        Check.due("keep with no cave", y.keep(0), 1);
        y.pass(10);
        y.seed(5);
        Check.due("goBack with no cave", y.goBack(0), 1);
        Check.due("date", y.told(6), 0);
        Check.due("seed", y.seed(0), 4);
    }

    private static void imagesOfFaultyCaves() {
        CaveYears x = Check.caveOf(CAVE);
        x.pass(5);
        x.keep(0);
        x.pass(5);
        Check.feed(x, "part");
        Check.due("faulty", x.cave(), -11);
        Check.due("goBack behind a fault", x.goBack(0), 1);
        Check.due("date", x.told(6), 5);
        Check.due("good", x.cave(), 0);
        Check.due("goBack behind a new cave", x.goBack(0), NOT);
    }
}
