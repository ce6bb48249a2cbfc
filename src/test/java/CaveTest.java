/** Promises 1 to 7: the text, its faults, what is told of the cave. */
public final class CaveTest {
    private static final int UNKNOWN = CaveYears.UNKNOWN, OUTSIDE = CaveYears.OUTSIDE, FULL = CaveYears.FULL;
    private static final String PARTS_7 = "part 1 1;part 2 1;part 3 1;part 4 1;part 5 1;part 6 1;part 7 1;";

    public static void main(String[] args) {
        newObject();
        feeding();
        readingACave();
        aFaultChangesNothingElse();
        blanksAndFigures();
        faultsOfPlace();
        faultsOfNumbers();
        faultsOfTooMany();
        faultsOfAgain();
        whatStoodBehindTheText();
        telling();
        tellingParts();
        tellingPersons();
        Check.finish();
    }

    private static void newObject() {
        CaveYears x = new CaveYears();
        int[] due = {0, 0, 0, 0, 0, 0, 0, 0, 0, 0, 0, 0};
        for (int what = 0; what < due.length; what++) {
            Check.due("new: told(" + what + ")", x.told(what), due[what]);
        }
        Check.due("new: fault()", x.fault(), -1);
        Check.due("new: part(0, 0)", x.part(0, 0), UNKNOWN);
        Check.due("new: person(0, 0)", x.person(0, 0), UNKNOWN);
        Check.due("new: judge()", x.judge(), -1);
        Check.due("new: forget()", x.forget(), 0);
        Check.due("new: seed(5)", x.seed(5), 0);
        Check.due("new: goBack(0)", x.goBack(0), CaveYears.NOT);
    }

    private static void feeding() {
        CaveYears x = new CaveYears();
        Check.due("feed(0, 1)", x.feed(0, 1), OUTSIDE);
        Check.due("feed(9, 1)", x.feed(9, 1), OUTSIDE);
        Check.due("feed(-1, 1)", x.feed(-1, 1), OUTSIDE);
        Check.due("feed min", x.feed(Integer.MIN_VALUE, 1), OUTSIDE);
        Check.due("told(5) after refusals", x.told(5), 0);
        // The lowest two bytes of a long are fed alone, the higher one first.
        Check.due("feed(2, ..)", x.feed(2, 0x7878787878782020L), 2);
        Check.due("feed(3, ..)", x.feed(3, 0x78797a7061L << 8 | 'r'), 5);
        Check.feed(x, "t 3 2;");
        Check.due("cave of what was fed", x.cave(), 1);
        Check.due("its rate", x.part(0, 0), 90);
        Check.due("feed(1, -1)", x.feed(1, -1L), 1);
        Check.due("cave() of a byte 255", x.cave(), -11);
        for (int k = 1; k <= 62; k++) {
            Check.due("feed of eight", x.feed(8, 0x2020202020202020L), 8 * k);
        }
        Check.due("feed(5) with 496", x.feed(5, 0), FULL);
        Check.due("feed(9) with 496", x.feed(9, 0), OUTSIDE);
        Check.due("told(5) after FULL", x.told(5), 496);
        Check.due("feed(4) with 496", x.feed(4, 0x20202020L), 500);
        Check.due("feed(1) with 500", x.feed(1, ' '), FULL);
        Check.due("cave() of 500 blanks", x.cave(), 0);
        Check.due("told(5) after cave", x.told(5), 0);
    }

    private static void readingACave() {
        CaveYears x = Check.caveOf(PARTS_7 + "mouth 1;way 0 1;person 10 5;interest 7;winter 1 1;");
        Check.spendAll(x, 1, 1);
        x.tryOut(1, 60);
        x.line(1, 1);
        x.seed(77);
        x.enter(0);
        x.pass(100);
        x.keep(0);
        x.keep(1);
        Check.feed(x, "part 1 1;person 1 1;");
        Check.due("cave() again", x.cave(), 1);
        int[] due = {1, 0, 1, 0, 0, 0, 0, 0, 0, 0, 0, 0};
        for (int what = 0; what < due.length; what++) {
            Check.due("cave again: told(" + what + ")", x.told(what), due[what]);
        }
        Check.due("ways are gone", x.part(0, 1), 0);
        Check.due("age", x.person(0, 0), 60);
        Check.due("up", x.person(0, 2), -1);
        Check.due("image 0 is gone", x.goBack(0), CaveYears.NOT);
        Check.due("image 1 is gone", x.goBack(1), CaveYears.NOT);
        Check.due("the seed stays", x.seed(0), 77);
        Check.due("cave() of an empty text", x.cave(), 0);
        Check.due("no persons", x.told(2), 0);
        Check.feed(x, "   ");
        Check.due("cave() of blanks", x.cave(), 0);
        Check.due("fault() of blanks", x.fault(), -1);
    }

    private static void aFaultChangesNothingElse() {
        CaveYears x = Check.caveOf("part 1 1;part 2 1;mouth 0;way 0 1;person 10 5;interest 7;winter 9 1;");
        Check.spendAll(x, 0, 1);
        x.tryOut(1, 60);
        x.line(1, 1);
        x.seed(77);
        x.pass(70);
        x.keep(1);
        String was = Check.stateOf(x);
        Check.feed(x, "part 1 1;person 5 5;mouth 1;");
        Check.due("faulty cave()", x.cave(), -12);
        Check.due("fault()", x.fault(), 26);
        Check.due("told(5): the text is empty", x.told(5), 0);
        Check.due("the next cave()", x.pass(1), 71);
        Check.due("the image is there yet", x.goBack(1), 1);
        Check.same("state", Check.stateOf(x).replaceFirst("^26", "-1"), was);
        Check.due("a good cave()", x.cave(), 0);
        Check.due("fault() after a good one", x.fault(), -1);
    }

    private static void blanksAndFigures() {
        CaveYears x = Check.caveOf("  part001 02 ;part  9   6;mouth0;way0 001;person099 999;interest050;winter090 009  ;  ");
        Check.due("parts", x.told(0), 2);
        Check.due("rate 0", x.part(0, 0), 30);
        Check.due("rate 1", x.part(1, 0), 90);
        Check.due("mouths", x.told(1), 1);
        Check.due("way", x.part(0, 1), 2);
        Check.due("interest", x.told(3), 50);
        Check.due("winters", x.told(4), 1);
        Check.due("age", x.person(0, 0), 99 * 60);
        Check.due("sum", x.person(0, 1), 999);
    }

    private static void faultsOfPlace() {
        Check.fault("tea 1;", 1, 0);
        Check.fault(" par", 1, 1);
        Check.fault("partx 1 1;", 1, 0);
        Check.fault("part", 1, 4);
        Check.fault("part  ", 1, 6);
        Check.fault("part 1", 1, 6);
        Check.fault("part 1 1", 1, 8);
        Check.fault("part 1 1 ", 1, 9);
        Check.fault("part 1 1;;", 1, 9);
        Check.fault(";", 1, 0);
        Check.fault("5 part 1 1;", 1, 0);
        Check.fault("part;", 1, 4);
        Check.fault("part 1;", 1, 6);
        Check.fault("part 1 1 1;", 1, 9);
        Check.fault("part 1 a;", 1, 7);
        Check.fault("part 1 1 abc;", 1, 9);
        Check.fault("part 1a 1;", 1, 6);
        Check.fault("part part 1 1;", 1, 5);
        Check.fault("partpart 1 1;", 1, 0);
        Check.fault("pa rt 1 1;", 1, 0);
        Check.fault("Part 1 1;", 1, 0);
        Check.fault("parT 1 1;", 1, 0);
        Check.fault("partT 1 1;", 1, 4);
        Check.fault("part\t1 1;", 1, 4);
        Check.fault("part 1\n1;", 1, 6);
        Check.fault("part 1,1;", 1, 6);
        Check.fault("part -1 1;", 1, 5);
        Check.fault("part 1 1;\u00e9", 1, 9);
        Check.fault("part 1 1;mouth 0 0;", 1, 17);
        Check.fault("interest 1 1;", 1, 11);
        Check.fault("part 1 1;way 0;", 1, 14);
        Check.fault("way;", 1, 3);
        Check.fault("person 1;", 1, 8);
        Check.fault("winter 1;", 1, 8);
        Check.fault("\0", 1, 0);
    }

    private static void faultsOfNumbers() {
        Check.fault("part 0 1;", 2, 5);
        Check.fault("part 10 1;", 2, 5);
        Check.fault("part 1 0;", 2, 7);
        Check.fault("part 1 7;", 2, 7);
        Check.fault("part 0001 1;", 2, 5);
        Check.fault("part 99999999999999999999 1;", 2, 5);
        Check.fault("part 4294967297 1;", 2, 5);
        Check.fault("part 0", 2, 5);
        Check.fault("part 0x", 2, 5);
        Check.fault("mouth 0;", 2, 6);
        Check.fault("part 1 1;mouth 1;", 2, 15);
        Check.fault("part 1 1;mouth  999;", 2, 16);
        Check.fault("part 1 1;mouth 0000;", 2, 15);
        Check.fault("way 0 0;", 2, 4);
        Check.fault("part 1 1;way 1 0;", 2, 13);
        Check.fault("part 1 1;way 0 1;", 2, 15);
        Check.fault("part 1 1;way 0 1;part 1 1;", 2, 15);
        Check.fault("person 100 1;", 2, 7);
        Check.fault("person 99 1000;", 2, 10);
        Check.fault("interest 51;", 2, 9);
        Check.fault("winter 91 1;", 2, 7);
        Check.fault("winter 90 0;", 2, 10);
        Check.fault("winter 90 10;", 2, 10);
    }

    private static void faultsOfTooMany() {
        Check.fault(PARTS_7 + "part 1 1;", 3, 63);
        Check.fault(PARTS_7 + " part", 3, 64);
        Check.fault(PARTS_7 + "partx", 1, 63);
        String ways = "way 0 1;way 0 2;way 0 3;way 0 4;way 0 5;way 0 6;way 1 2;way 1 3;way 1 4;way 1 5;way 1 6;way 2 3;";
        Check.due("twelve ways", Check.caveOf(PARTS_7 + ways).told(0), 7);
        Check.fault(PARTS_7 + ways + "way 0 0;", 3, 63 + 96);
        Check.fault(PARTS_7 + ways + "way 2 4;", 3, 63 + 96);
        String persons = "person 1 1;person 1 1;person 1 1;person 1 1;person 1 1;person 1 1;";
        Check.due("six persons", Check.caveOf(persons).told(2), 6);
        Check.fault(persons + "person 1 1;", 3, 66);
        Check.fault("interest 0;interest 0;", 3, 11);
        String winters = "winter 1 1;winter 1 1;winter 1 1;winter 1 1;winter 1 1;";
        Check.due("five winters", Check.caveOf(winters).told(4), 5);
        Check.fault(winters + "winter 1 1;", 3, 55);
        // What a faulty text told is not counted in the next one.
        CaveYears x = new CaveYears();
        Check.feed(x, PARTS_7 + "interest 3;mouth 1;part");
        Check.due("an eighth part", x.cave(), -13);
        Check.feed(x, "part 1 1;part 1 1;interest 4;mouth 1;");
        Check.due("the next cave()", x.cave(), 2);
        Check.due("its interest", x.told(3), 4);
    }

    private static void faultsOfAgain() {
        Check.fault("part 1 1;mouth 0;mouth 0;", 4, 23);
        Check.fault("part 1 1;mouth 0;mouth 0x", 4, 23);
        Check.fault("part 1 1;way 0 0;", 4, 15);
        Check.fault("part 1 1;part 1 1;way 0 1;way 0 1;", 4, 32);
        Check.fault("part 1 1;part 1 1;way 0 1;way 1 00;", 4, 32);
        Check.due("all mouths", Check.caveOf(PARTS_7 + "mouth 6;mouth 5;mouth 4;mouth 3;mouth 2;mouth 1;mouth 0;").told(1), 127);
    }

    /** A text is read up to its own end, whatever a longer one had there before. */
    private static void whatStoodBehindTheText() {
        String text = "part 1 1;part  2 001 ;mouth 1;way 0 1;person 10 100;interest 5;winter 9 9;";
        for (int length = 0; length <= text.length(); length++) {
            CaveYears fresh = new CaveYears();
            Check.feed(fresh, text.substring(0, length));
            int parts = fresh.cave();
            CaveYears used = Check.caveOf(text);
            Check.feed(used, text.substring(0, length));
            Check.due("cave() of " + length + " bytes again", used.cave(), parts);
            Check.due("fault() of " + length + " bytes again", used.fault(), fresh.fault());
            boolean whole = length == 0 || text.substring(0, length).trim().endsWith(";");
            Check.due(length + " bytes are good", parts >= 0 ? 1 : 0, whole ? 1 : 0);
        }
    }

    private static void telling() {
        CaveYears x = Check.caveOf("part 1 1;part 2 1;mouth 1;person 1 2;person 3 4;person 5 6;interest 50;winter 1 2;winter 0 1;");
        Check.feed(x, "abc");
        Check.spendAll(x, 1, 1, 0);
        x.forget();
        Check.spendAll(x, 1, 1);
        x.pass(17);
        x.enter(1);
        x.tryOut(1, 1);
        x.tryOut(1, 2);
        x.line(1, 1);
        int[] due = {2, 2, 3, 50, 2, 3, 17, 2, 2, 240, 2, 1};
        for (int what = 0; what < due.length; what++) {
            Check.due("told(" + what + ")", x.told(what), due[what]);
        }
        Check.due("told(12)", x.told(12), OUTSIDE);
        Check.due("told(-1)", x.told(-1), OUTSIDE);
    }

    private static void tellingParts() {
        CaveYears x = Check.caveOf("part 2 1;part 4 2;part 6 3;part 1 6;part 9 1;way 3 0;way 0 4;way 1 4;");
        int[] rates = {120, 120, 120, 10, 540};
        int[] near = {24, 16, 0, 1, 3};
        int[] alike = {6, 5, 3, 0, 0};
        for (int p = 0; p < 5; p++) {
            Check.due("part(" + p + ", 0)", x.part(p, 0), rates[p]);
            Check.due("part(" + p + ", 1)", x.part(p, 1), near[p]);
            Check.due("part(" + p + ", 2)", x.part(p, 2), alike[p]);
        }
        Check.due("part(5, 0)", x.part(5, 0), UNKNOWN);
        Check.due("part(-1, 9)", x.part(-1, 9), UNKNOWN);
        Check.due("part(0, 3)", x.part(0, 3), OUTSIDE);
        Check.due("part(0, -1)", x.part(0, -1), OUTSIDE);
    }

    private static void tellingPersons() {
        CaveYears x = Check.caveOf("part 1 2;mouth 0;person 0 0;person 99 999;interest 10;");
        Check.due("person(0, 0)", x.person(0, 0), 0);
        Check.due("person(1, 0)", x.person(1, 0), 5940);
        Check.due("person(1, 1)", x.person(1, 1), 999);
        Check.due("person(1, 2)", x.person(1, 2), -1);
        Check.spendAll(x, 0, 0, 0);
        x.pass(50);
        x.enter(1);
        Check.due("down: age as he will be out", x.person(1, 0), 5940 + 50 + 3);
        Check.due("down: out", x.person(1, 2), 140);
        x.pass(30);
        Check.due("down yet: age", x.person(1, 0), 5993);
        Check.due("down: his sum grows", x.person(1, 1), 1098);
        Check.due("person(2, 0)", x.person(2, 0), UNKNOWN);
        Check.due("person(-1, 3)", x.person(-1, 3), UNKNOWN);
        Check.due("person(0, 3)", x.person(0, 3), OUTSIDE);
        Check.due("person(0, -1)", x.person(0, -1), OUTSIDE);
    }
}
