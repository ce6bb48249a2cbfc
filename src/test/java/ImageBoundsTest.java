/** THE SEED, IMAGES, the constants, and Promises 26 to 28: a test for each sentence that names a bound. */
public final class ImageBoundsTest {
    private static final int UNKNOWN = CaveYears.UNKNOWN, OUTSIDE = CaveYears.OUTSIDE, NOT = CaveYears.NOT;
    private static final int[] NO_IMAGES = {-1, 2, 3, UNKNOWN, Integer.MIN_VALUE, Integer.MAX_VALUE};

    public static void main(String[] args) {
        constants();
        seedsUpTo2147483647();
        twoImages();
        imageThatWasNotKept();
        whatAnImageKeeps();
        whatNoImageKeeps();
        theLatestKept();
        Check.finish();
    }

    /** "NONE is -1"; "-1000000001 and on", in the order of REFUSALS. */
    private static void constants() {
        Check.due("NONE", CaveYears.NONE, -1);
        Check.due("UNKNOWN", CaveYears.UNKNOWN, -1000000001);
        Check.due("OUTSIDE", CaveYears.OUTSIDE, -1000000002);
        Check.due("NOT", CaveYears.NOT, -1000000003);
        Check.due("FULL", CaveYears.FULL, -1000000004);
    }

    /** "THE SEED becomes v (0 .. 2147483647): what it was. OUTSIDE." */
    private static void seedsUpTo2147483647() {
        CaveYears x = new CaveYears();
        Check.due("at first", x.seed(2147483647), 0);
        Check.due("the most", x.seed(0), 2147483647);
        Check.due("the least", x.seed(1), 0);
        Check.due("it was", x.seed(1), 1);
        for (int v : new int[] {-1, -2, UNKNOWN, Integer.MIN_VALUE}) {
            Check.refused("seed(" + v + ")", States::busy, y -> y.seed(v), OUTSIDE);
            Check.refused("seed(" + v + ") of a bare one", States::bare, y -> y.seed(v), OUTSIDE);
        }
    }

    /** keep(), goBack(): "UNKNOWN" (IMAGES 0, 1), ahead of NOT. */
    private static void twoImages() {
        for (int i = 0; i <= 1; i++) {
            CaveYears x = States.busy();
            Check.due("keep(" + i + ")", x.keep(i), 1);
            Check.due("goBack(" + i + ")", x.goBack(i), 1);
        }
        for (int i : NO_IMAGES) {
            Check.refused("keep(" + i + ")", States::busy, x -> x.keep(i), UNKNOWN);
            Check.refused("keep(" + i + ") of a bare one", States::bare, x -> x.keep(i), UNKNOWN);
            Check.refused("goBack(" + i + ")", States::full, x -> x.goBack(i), UNKNOWN);
            Check.refused("UNKNOWN ahead of NOT: goBack(" + i + ")", States::bare, x -> x.goBack(i), UNKNOWN);
        }
    }

    /** goBack(): "NOT: it was not kept". */
    private static void imageThatWasNotKept() {
        Check.refused("IMAGE 0 of a bare one", States::bare, x -> x.goBack(0), NOT);
        Check.refused("IMAGE 1 of a bare one", States::bare, x -> x.goBack(1), NOT);
        Check.refused("IMAGE 1, where 0 was kept", States::busy, x -> x.goBack(1), NOT);
        CaveYears x = new CaveYears();
        x.keep(1);
        Check.due("IMAGE 0, where 1 was kept", x.goBack(0), NOT);
        Check.due("IMAGE 1", x.goBack(1), 1);
        for (int i = 0; i <= 1; i++) {
            CaveYears y = States.full();
            y.cave();
            Check.due("gone with the next cave(): " + i, y.goBack(i), NOT);
        }
    }

    /** "IMAGES 0, 1 keep THE DATE, PERSONS (AGES, SUMS, who is DOWN till when), THE SEED." */
    private static void whatAnImageKeeps() {
        for (int i = 0; i <= 1; i++) {
            CaveYears x = States.busy();
            x.keep(i);
            x.pass(500);
            x.enter(2);
            x.seed(3);
            Check.due("goBack(" + i + ")", x.goBack(i), 1);
            Check.due("THE DATE", x.told(6), 57);
            Check.due("who is DOWN", x.told(7), 1);
            Check.due("till when", x.person(0, 2), 172);
            Check.due("up here", x.person(2, 2), -1);
            Check.due("AGE of who is DOWN", x.person(0, 0), 1210);
            Check.due("AGE", x.person(1, 0), 1857);
            Check.due("SUM", x.person(0, 1), 100);
            Check.due("SUM of the last one", x.person(2, 1), 999);
            Check.due("THE SEED", x.seed(1234567), 1234567);
            Check.same("as one that never went on", afterIt(x), afterIt(States.busy()));
        }
    }

    private static String afterIt(CaveYears x) {
        StringBuilder s = new StringBuilder();
        s.append(x.drift(20)).append(' ').append(x.pass(61));
        for (int q = 0; q < 3; q++) {
            s.append(' ').append(x.person(q, 0)).append(' ').append(x.person(q, 1)).append(' ').append(x.person(q, 2));
        }
        return s.toString();
    }

    /** The others are as they are when it is gone back: a text, THE STAY, TRIED, REGISTERS, the latest FAULT. */
    private static void whatNoImageKeeps() {
        CaveYears x = States.busy();
        x.keep(1);
        x.feed(1, ' ');
        x.spend(0);
        x.tryOut(1, 1);
        x.line(1, 1);
        x.goBack(1);
        int[] due = {4, 5, 3, 10, 2, 31, 57, 1, 4, 225, 3, 4};
        for (int what = 0; what <= 11; what++) {
            Check.due("told(" + what + ")", x.told(what), due[what]);
        }
        Check.due("the latest FAULT", x.fault(), 3);
    }

    /** "IMAGE i becomes what is so": kept again, it is the later one; the other one is as it was. */
    private static void theLatestKept() {
        CaveYears x = Check.caveOf(States.CAVE);
        x.keep(0);
        x.pass(1);
        x.keep(1);
        x.pass(1);
        x.keep(0);
        x.pass(1);
        x.goBack(1);
        Check.due("IMAGE 1", x.told(6), 1);
        x.goBack(0);
        Check.due("IMAGE 0", x.told(6), 2);
        x.pass(5);
        x.goBack(0);
        Check.due("IMAGE 0 again", x.told(6), 2);
        x.goBack(1);
        Check.due("IMAGE 1 again", x.told(6), 1);
    }
}
