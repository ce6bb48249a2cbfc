/**
 * Part 1 of the Terms, THE CAVE, and Promises 2 to 4: a test for each sentence that names a bound.
 * The names of what is compared are the sentences' own words.
 */
public final class TextBoundsTest {
    private static final int OUTSIDE = CaveYears.OUTSIDE, FULL = CaveYears.FULL;
    private static final String PARTS_7 = States.PARTS_7;

    public static void main(String[] args) {
        theLowestBytesOneToEight();
        theHighestOfTheseFirst();
        fiveHundredBytesAtMost();
        outsideComesAheadOfFull();
        theTextIsEmptyThen();
        anEmptyTextHasNoFault();
        tenLessTheNumberOfItsFault();
        allElseIsAsItWas();
        whatACaveEnds();
        eachTextBeginsAnew();
        thePlaceOfTheFault();
        partsAndTheirNumbers();
        mouths();
        ways();
        persons();
        interest();
        winters();
        numbersHaveOneToThreeFigures();
        wordsAreLetters();
        blanksStandAnywhereBut();
        sideBySide();
        theEndOfTheText();
        theFirstByteThatHasOne();
        ofTheseTheLeast();
        Check.finish();
    }

    /** "The lowest n bytes (1 .. 8) of a long"; "OUTSIDE". */
    private static void theLowestBytesOneToEight() {
        CaveYears x = new CaveYears();
        Check.due("feed(1): the fewest", x.feed(1, 'p'), 1);
        Check.due("feed(8): the most", x.feed(8, 0x6172742032203120L), 9);
        Check.due("feed(1) again", x.feed(1, ';'), 10);
        Check.due("cave() of 'part 2 1 ;'", x.cave(), 1);
        Check.due("its RATE", x.part(0, 0), 120);
        for (int n : new int[] {0, 9, -1, 10, 64, Integer.MIN_VALUE, Integer.MAX_VALUE}) {
            Check.refused("feed(" + n + ") of a bare one", States::bare, y -> y.feed(n, 0x2020202020202020L), OUTSIDE);
            Check.refused("feed(" + n + ") of a busy one", States::busy, y -> y.feed(n, 0x2020202020202020L), OUTSIDE);
        }
    }

    /** "of a long, the highest of these first": what is higher is not fed, a byte has no sign. */
    private static void theHighestOfTheseFirst() {
        String text = "part 1 1;part 3 2;person 7 8;mouth 1;way 1 0;    ";
        for (int n = 1; n <= 8; n++) {
            CaveYears x = new CaveYears();
            for (int from = 0; from + n <= text.length(); from += n) {
                long bytes = -1L;
                for (int k = 0; k < n; k++) {
                    bytes = bytes << 8 | text.charAt(from + k);
                }
                Check.due("feed(" + n + ")", x.feed(n, bytes), from + n);
            }
            Check.due("cave() by " + n, x.cave(), 2);
            Check.due("MOUTHS by " + n, x.told(1), 2);
            Check.due("way by " + n, x.part(0, 1), 2);
            Check.due("RATE by " + n, x.part(1, 0), 90);
        }
        for (int k = 0; k < 8; k++) {
            CaveYears x = new CaveYears();
            long blanks = 0x2020202020202020L;
            x.feed(8, blanks & ~(255L << (8 * k)) | 128L << (8 * k));
            Check.due("a byte 128 among blanks", x.cave(), -11);
            Check.due("its place", x.fault(), 7 - k);
        }
    }

    private static CaveYears fed(int bytes) {
        CaveYears x = new CaveYears();
        Check.due("feed up to " + bytes, Check.feed(x, "part 1 1;" + " ".repeat(bytes - 9)), bytes);
        return x;
    }

    /** "500 bytes at most"; "FULL (500)". */
    private static void fiveHundredBytesAtMost() {
        for (int n = 1; n <= 8; n++) {
            int more = n;
            Check.due("feed(" + n + ") to 500", fed(500 - n).feed(n, 0x2020202020202020L), 500);
            Check.refused("feed(" + n + ") to 501", () -> fed(501 - more), x -> x.feed(more, 0x2020202020202020L), FULL);
            Check.refused("feed(" + n + ") with 500", () -> fed(500), x -> x.feed(more, 0x2020202020202020L), FULL);
        }
        CaveYears x = fed(500);
        Check.due("told(5): 500", x.told(5), 500);
        Check.due("cave() of 500", x.cave(), 1);
        Check.due("feed(8) behind it", x.feed(8, 0), 8);
        String whole = " ".repeat(491) + "part 9 1;";
        Check.good(whole, 1);
        Check.fault(whole.substring(0, 499), 1, 499);
        Check.fault(whole.substring(0, 499) + ' ', 1, 500);
        Check.fault(whole.substring(0, 499) + 'x', 1, 499);
        Check.fault(" ".repeat(496) + "part", 1, 500);
        Check.fault(" ".repeat(499) + "p", 1, 499);
        Check.fault(" ".repeat(494) + "part 0", 2, 499);
    }

    /** "REFUSALS, of several the first in this order": feed(). */
    private static void outsideComesAheadOfFull() {
        Check.refused("feed(0) with 500", States::full, x -> x.feed(0, 32), OUTSIDE);
        Check.refused("feed(9) with 500", States::full, x -> x.feed(9, 32), OUTSIDE);
        Check.refused("feed(1) with 500", States::full, x -> x.feed(1, 32), FULL);
    }

    /** "it is empty then, with a FAULT, too". */
    private static void theTextIsEmptyThen() {
        CaveYears x = Check.caveOf("part 1 1;");
        Check.due("bytes behind a good one", x.told(5), 0);
        Check.feed(x, "part 1 1;part");
        Check.due("cave() with a FAULT", x.cave(), -11);
        Check.due("bytes behind a FAULT", x.told(5), 0);
        Check.due("feed() behind a FAULT", x.feed(1, ' '), 1);
        Check.due("cave() of what came behind it", x.cave(), 0);
    }

    /** "An empty text (or one of blanks alone) has no FAULT: no PARTS." */
    private static void anEmptyTextHasNoFault() {
        for (int blanks : new int[] {0, 1, 8, 499, 500}) {
            Check.good(" ".repeat(blanks), 0);
            CaveYears x = States.busy();
            x.cave();
            Check.feed(x, " ".repeat(blanks));
            Check.due("cave() of " + blanks + " blanks", x.cave(), 0);
            for (int what = 0; what <= 11; what++) {
                Check.due("told(" + what + ") behind it", x.told(what), 0);
            }
            Check.due("a PART behind it", x.part(0, 0), CaveYears.UNKNOWN);
            Check.due("a PERSON behind it", x.person(0, 0), CaveYears.UNKNOWN);
        }
    }

    /** "-10 less the number of its FAULT". */
    private static void tenLessTheNumberOfItsFault() {
        String[] faulty = {"x", "part 0 1;", "interest 1;interest 1;", "part 1 1;mouth 0;mouth 0;"};
        int[] places = {0, 5, 11, 23};
        for (int k = 0; k < 4; k++) {
            CaveYears x = new CaveYears();
            Check.feed(x, faulty[k]);
            Check.due("FAULT " + (k + 1), x.cave(), -11 - k);
            Check.due("its place", x.fault(), places[k]);
        }
    }

    private static CaveYears busyWith(String text) {
        CaveYears x = States.busy();
        x.cave();
        Check.feed(x, text);
        return x;
    }

    /** "all else is as it was": whatever the faulty text told ahead of its FAULT. */
    private static void allElseIsAsItWas() {
        String told = "part 9 1;part 9 2;mouth 1;way 0 1;person 1 1;interest 3;winter 1 1;";
        String[] ends = {"x", "part 1 7;", "interest 1;", "mouth 1;", "part", "way 0 2;"};
        for (String end : ends) {
            CaveYears x = busyWith(told + end);
            Check.due("cave() with a FAULT", x.cave() < 0 ? 1 : 0, 1);
            CaveYears plain = busyWith("x");
            plain.cave();
            String got = Check.allOf(x);
            String want = Check.allOf(plain);
            Check.same("all else", got.substring(got.indexOf(' ')), want.substring(want.indexOf(' ')));
        }
        CaveYears x = busyWith(told + "x");
        x.cave();
        Check.due("THE DATE", x.told(6), 57);
        Check.due("DOWN", x.told(7), 1);
        Check.due("DAYS", x.told(8), 3);
        Check.due("TRIED", x.told(10), 2);
        Check.due("lines", x.told(11), 3);
        Check.due("IMAGE 0", x.goBack(0), 1);
        Check.due("its DATE", x.told(6), 7);
    }

    /** "DATE 0, all up here; no STAY, nothing TRIED, no REGISTERS; IMAGES are gone; THE SEED stays". */
    private static void whatACaveEnds() {
        CaveYears x = busyWith(States.CAVE);
        x.keep(1);
        Check.due("cave()", x.cave(), 4);
        Check.due("DATE 0", x.told(6), 0);
        Check.due("all up here", x.told(7), 0);
        for (int q = 0; q < 3; q++) {
            Check.due("up here: " + q, x.person(q, 2), -1);
        }
        Check.due("AGE as told", x.person(0, 0), 1200);
        Check.due("SUM as told", x.person(2, 1), 999);
        Check.due("no STAY", x.told(8), 0);
        Check.due("its TIME", x.told(9), 0);
        Check.due("nothing TRIED", x.told(10), 0);
        Check.due("all fit", x.fits(), 15);
        Check.due("no REGISTERS", x.told(11), 0);
        Check.due("IMAGE 0 is gone", x.goBack(0), CaveYears.NOT);
        Check.due("IMAGE 1 is gone", x.goBack(1), CaveYears.NOT);
        Check.due("THE SEED stays", x.seed(0), 1234567);
    }

    /** "7 PARTS at most", "once" and their like are counted in one text: whatever an earlier one told, good or faulty. */
    private static void eachTextBeginsAnew() {
        String most = PARTS_7 + States.MOUTHS_7 + States.WAYS_12 + States.PERSONS_6 + "interest 50;" + States.WINTERS_5;
        for (String end : new String[] {"", "x"}) {
            CaveYears x = new CaveYears();
            for (int k = 0; k < 4; k++) {
                Check.feed(x, most + end);
                Check.due("cave() of the most, " + k, x.cave(), end.isEmpty() ? 7 : -11);
            }
            Check.feed(x, most);
            Check.due("once more", x.cave(), 7);
            for (int k = 0; k < 4; k++) {
                Check.feed(x, "part 1 1;part 1 1;part 1 1;mouth 2;way 2 1;person 1 1;winter 1 1;");
                Check.due("cave() of less, " + k, x.cave(), 3);
                int[] due = {3, 4, 1, 0, 1};
                for (int what = 0; what < due.length; what++) {
                    Check.due("told(" + what + ")", x.told(what), due[what]);
                }
                int[] near = {0, 4, 2};
                for (int p = 0; p < 3; p++) {
                    Check.due("ways from " + p, x.part(p, 1), near[p]);
                }
            }
        }
    }

    /** "The place (from 0 on) of the byte that has the FAULT of the latest cave(); NONE." */
    private static void thePlaceOfTheFault() {
        CaveYears x = new CaveYears();
        Check.due("ahead of all cave()", x.fault(), -1);
        Check.feed(x, "part 1 1;x");
        Check.due("fed alone", x.fault(), -1);
        x.cave();
        Check.due("from 0 on", x.fault(), 9);
        Check.feed(x, "part 1 1;");
        Check.due("of the latest cave() yet", x.fault(), 9);
        x.cave();
        Check.due("none", x.fault(), -1);
        Check.fault("x", 1, 0);
    }

    /** "7 PARTS at most"; "N 1 .. 9, D 1 .. 6"; "an eighth 'part' (at its first letter)". */
    private static void partsAndTheirNumbers() {
        Check.good("part 1 1;", 1);
        Check.good("part 9 6;", 1);
        Check.fault("part 0 1;", 2, 5);
        Check.fault("part 10 1;", 2, 5);
        Check.fault("part 1 0;", 2, 7);
        Check.fault("part 1 7;", 2, 7);
        Check.good(PARTS_7, 7);
        Check.fault(PARTS_7 + "part 1 1;", 3, 63);
        Check.fault(PARTS_7 + "  part 0 0;", 3, 65);
        Check.fault(PARTS_7 + "part", 3, 63);
        Check.good(PARTS_7 + "mouth 6;", 7);
    }

    /** "at PART P told ahead; each once"; "a PART that was not told yet"; "a 'mouth' again (at the P)". */
    private static void mouths() {
        Check.fault("mouth 0;part 1 1;", 2, 6);
        Check.good("part 1 1;mouth 0;", 1);
        Check.fault("part 1 1;mouth 1;", 2, 15);
        Check.fault("part 1 1;mouth 1;part 1 1;", 2, 15);
        Check.good("part 1 1;part 1 1;mouth 1;", 2);
        Check.good(PARTS_7 + "mouth 6;", 7);
        Check.fault(PARTS_7 + "mouth 7;", 2, 69);
        Check.fault(PARTS_7 + "mouth 32;", 2, 69);
        Check.good(PARTS_7 + States.MOUTHS_7, 7);
        for (int p = 0; p < 7; p++) {
            Check.fault(PARTS_7 + States.MOUTHS_7 + "mouth " + p + ";", 4, 63 + 56 + 6);
        }
        Check.fault("part 1 1;mouth 0;mouth  000 ;", 4, 24);
    }

    /** "12 at most: between unlike PARTS told ahead; each two once"; "a 13th 'way'"; "a 'way' again, Q like P (at the Q)". */
    private static void ways() {
        Check.good(PARTS_7 + States.WAYS_12, 7);
        Check.fault(PARTS_7 + States.WAYS_12 + "way 3 4;", 3, 63 + 96);
        Check.fault(PARTS_7 + States.WAYS_12 + "way", 3, 63 + 96);
        Check.fault("way 0 1;part 1 1;part 1 1;", 2, 4);
        Check.fault("part 1 1;way 0 1;part 1 1;", 2, 15);
        Check.fault("part 1 1;way 1 0;part 1 1;", 2, 13);
        Check.good("part 1 1;part 1 1;way 0 1;", 2);
        Check.good("part 1 1;part 1 1;way 1 0;", 2);
        Check.fault(PARTS_7 + "way 6 7;", 2, 69);
        Check.fault(PARTS_7 + "way 7 6;", 2, 67);
        Check.fault("part 1 1;way 0 0;", 4, 15);
        Check.fault(PARTS_7 + "way 6 6;", 4, 69);
        Check.fault("part 1 1;part 1 1;way 0 1;way 0 1;", 4, 32);
        Check.fault("part 1 1;part 1 1;way 0 1;way 1 0;", 4, 32);
        Check.fault("part 1 1;part 1 1;way 1 0;way 0 1;", 4, 32);
        CaveYears x = Check.caveOf("part 1 1;part 1 1;part 1 1;way 2 0;");
        Check.due("from P to Q", x.part(2, 1), 1);
        Check.due("from Q to P", x.part(0, 1), 4);
        Check.due("none from 1", x.part(1, 1), 0);
        int[] near = {126, 125, 11, 7, 3, 3, 3};
        CaveYears y = Check.caveOf(PARTS_7 + States.WAYS_12);
        CaveYears z = Check.caveOf(PARTS_7 + States.WAYS_12.replaceAll("way (.) (.);", "way $2 $1;"));
        for (int p = 0; p < 7; p++) {
            Check.due("ways from " + p, y.part(p, 1), near[p]);
            Check.due("ways from " + p + ", told turned round", z.part(p, 1), near[p]);
        }
    }

    /** "6 PERSONS at most: AGE of A YEARS, 0 .. 99; SUM C, 0 .. 999"; "a seventh 'person'". */
    private static void persons() {
        CaveYears x = Check.caveOf("person 0 0;person 99 999;");
        Check.due("AGE of 0 YEARS", x.person(0, 0), 0);
        Check.due("SUM 0", x.person(0, 1), 0);
        Check.due("AGE of 99 YEARS", x.person(1, 0), 5940);
        Check.due("SUM 999", x.person(1, 1), 999);
        Check.fault("person 100 0;", 2, 7);
        Check.fault("person 0 1000;", 2, 9);
        Check.due("six PERSONS", Check.caveOf(States.PERSONS_6).told(2), 6);
        int length = States.PERSONS_6.length();
        Check.fault(States.PERSONS_6 + "person 1 1;", 3, length);
        Check.fault(States.PERSONS_6 + " person 100", 3, length + 1);
    }

    /** "0 .. 50 of a hundred a YEAR; 0 untold; once"; "'interest' again (at its first letter)". */
    private static void interest() {
        Check.due("0 untold", Check.caveOf("part 1 1;").told(3), 0);
        Check.due("interest 0", Check.caveOf("interest 0;").told(3), 0);
        Check.due("interest 50", Check.caveOf("interest 50;").told(3), 50);
        Check.fault("interest 51;", 2, 9);
        Check.fault("interest 5;interest 5;", 3, 11);
        Check.fault("interest 0; interest 5;", 3, 12);
        CaveYears x = Check.caveOf("interest 5;");
        x.cave();
        Check.due("untold in the next text", x.told(3), 0);
        Check.feed(x, "interest 6;");
        Check.due("once in each text", x.cave(), 0);
        Check.due("interest 6", x.told(3), 6);
    }

    /** "5 at most: from YEAR F, 0 .. 90, on for L YEARS, 1 .. 9"; "a sixth 'winter'". */
    private static void winters() {
        Check.due("winter 0 1", Check.caveOf("winter 0 1;").told(4), 1);
        Check.due("winter 90 9", Check.caveOf("winter 90 9;").told(4), 1);
        Check.fault("winter 91 1;", 2, 7);
        Check.fault("winter 0 0;", 2, 9);
        Check.fault("winter 0 10;", 2, 9);
        Check.due("five winters", Check.caveOf(States.WINTERS_5).told(4), 5);
        int length = States.WINTERS_5.length();
        Check.fault(States.WINTERS_5 + "winter 1 1;", 3, length);
        Check.fault(States.WINTERS_5 + "winter", 3, length);
        Check.due("one told twice is two", Check.caveOf("winter 1 1;winter 1 1;").told(4), 2);
    }

    /** "NUMBERS have one to three figures"; "a NUMBER of four figures or more (at its first)". */
    private static void numbersHaveOneToThreeFigures() {
        Check.good("part 1 01;part 001 1;", 2);
        Check.fault("part 0001 1;", 2, 5);
        Check.fault("part 1 0001;", 2, 7);
        Check.fault("part 00000000000000000001 1;", 2, 5);
        Check.due("three figures", Check.caveOf("person 099 999;").person(0, 1), 999);
        Check.fault("person 0099 999;", 2, 7);
        Check.fault("person 99 0999;", 2, 10);
        Check.fault("interest 0000;", 2, 9);
        Check.fault("winter 0000 1;", 2, 7);
        Check.fault("winter 0 0001;", 2, 9);
        Check.fault("part 1 1;mouth 0000;", 2, 15);
        Check.fault("part 1 1;part 1 1;way 0000 1;", 2, 22);
        Check.fault("part 1 1;part 1 1;way 0 0001;", 2, 24);
        Check.fault("part 4294967297 1;", 2, 5);
        Check.fault("part 18446744073709551617 1;", 2, 5);
        Check.fault("part 1/1;", 1, 6);
        Check.fault("part 1:1;", 1, 6);
        Check.fault("part /;", 1, 5);
        Check.fault("part :;", 1, 5);
    }

    /** "words are letters a .. z side by side"; "a word that cannot: at its first letter". */
    private static void wordsAreLetters() {
        Check.fault("parta 1 1;", 1, 0);
        Check.fault("partz 1 1;", 1, 0);
        Check.fault("part` 1 1;", 1, 4);
        Check.fault("part{ 1 1;", 1, 4);
        Check.fault("partA 1 1;", 1, 4);
        Check.fault("partZ 1 1;", 1, 4);
        Check.fault("par 1 1;", 1, 0);
        Check.fault("p", 1, 0);
        Check.fault("PART 1 1;", 1, 0);
        String[] words = {"mouth", "way", "person", "interest", "winter", "part"};
        for (String word : words) {
            Check.fault(" " + word + "s 1 1;", 1, 1);
            Check.fault(" " + word.substring(0, word.length() - 1) + " 1 1;", 1, 1);
            Check.fault(" s" + word + " 1 1;", 1, 1);
            Check.fault("part 1 1 " + word + ";", 1, 9);
            Check.fault("part " + word + " 1;", 1, 5);
            for (int k = 0; k < word.length(); k++) {
                Check.fault(" " + word.substring(0, k) + "q" + word.substring(k + 1) + " 1 1;", 1, 1);
            }
        }
        Check.fault("part 1 1;abc", 1, 9);
        Check.fault("part 1 abc", 1, 7);
    }

    /** "blanks (32) may stand anywhere but within words and NUMBERS". */
    private static void blanksStandAnywhereBut() {
        String[] tokens = {"part", "3", "2", ";", "part", "009", "6", ";", "mouth", "1", ";", "way", "0", "1", ";", "person", "12",
            "345", ";", "interest", "50", ";", "winter", "90", "9", ";"};
        String[] gaps = {" ", "  ", "       "};
        for (String gap : gaps) {
            CaveYears x = Check.caveOf(gap + String.join(gap, tokens) + gap);
            Check.due("RATE 0", x.part(0, 0), 90);
            Check.due("RATE 1", x.part(1, 0), 90);
            Check.due("MOUTHS", x.told(1), 2);
            Check.due("way", x.part(0, 1), 2);
            Check.due("SUM", x.person(0, 1), 345);
            Check.due("interest", x.told(3), 50);
            Check.due("winters", x.told(4), 1);
        }
        Check.fault("pa rt 1 1;", 1, 0);
        Check.fault("part 1 1;wa y 0 0;", 1, 9);
        Check.fault("person 1 2 3;", 1, 11);
        Check.fault("interest 5 0;", 1, 11);
        char[] others = {0, 9, 10, 13, 31, 33, 127, 128, 160, 255};
        for (char other : others) {
            Check.fault(other + "part 1 1;", 1, 0);
            Check.fault("part" + other + "1 1;", 1, 4);
            Check.fault("part 1" + other + "1;", 1, 6);
            Check.fault("part 1 1" + other + ";", 1, 8);
            Check.fault("part 1 1;" + other, 1, 9);
        }
    }

    /** "two words, two NUMBERS side by side need one": a word and a NUMBER, and what stands at a ';', need none. */
    private static void sideBySide() {
        Check.fault("part11;", 2, 4);
        Check.fault("part 123;", 2, 5);
        Check.fault("person 99999;", 2, 7);
        Check.fault("partmouth 0;", 1, 0);
        CaveYears x = Check.caveOf("part3 2;part1 1;mouth0;way0 1;person7 8;interest9;winter5 6;");
        Check.due("PARTS", x.told(0), 2);
        Check.due("RATE", x.part(0, 0), 90);
        Check.due("MOUTHS", x.told(1), 1);
        Check.due("way", x.part(1, 1), 1);
        Check.due("AGE", x.person(0, 0), 420);
        Check.due("interest", x.told(3), 9);
        Check.due("winters", x.told(4), 1);
    }

    /** "the end at the text's length": every clause that is cut off, with blanks behind it and without. */
    private static void theEndOfTheText() {
        String[] clauses = {"part 1 1;", "mouth 0;", "way 0 1;", "person 1 1;", "interest 1;", "winter 1 1;"};
        String ahead = "part 1 1;part 1 1;";
        for (String clause : clauses) {
            int word = clause.indexOf(' ');
            CaveYears used = new CaveYears();
            for (int length = 1; length < clause.length(); length++) {
                String cut = ahead + clause.substring(0, length);
                int place = length < word ? ahead.length() : cut.length();
                Check.fault(cut, 1, place);
                Check.fault(cut + "   ", 1, length < word ? place : place + 3);
                // What stood behind it in an earlier text is not read on.
                Check.feed(used, ahead + clause);
                used.cave();
                Check.feed(used, cut);
                Check.due("cave() of '" + cut + "' behind the whole", used.cave(), -11);
                Check.due("fault() of '" + cut + "' behind the whole", used.fault(), place);
            }
            Check.good(ahead + clause, clause.startsWith("part") ? 3 : 2);
        }
    }

    /** "FAULTS, at the first byte that has one": one further behind is not told, though its number be less. */
    private static void theFirstByteThatHasOne() {
        Check.fault("part 1 7 x", 2, 7);
        Check.fault("part 0 7;", 2, 5);
        Check.fault("part 10000 x", 2, 5);
        Check.fault("interest 1;interest x;", 3, 11);
        Check.fault("interest 1;interest 99;", 3, 11);
        Check.fault("part 1 1;mouth 0;mouth 0 x", 4, 23);
        Check.fault("part 1 1;way 0 0 x", 4, 15);
        Check.fault("part 1 1;way 1 1;", 2, 13);
        Check.fault(PARTS_7 + "part 0 9 x", 3, 63);
        Check.fault("x part 0 9;", 1, 0);
        Check.fault("mouth 0 0;", 2, 6);
        Check.fault("mouth 0", 2, 6);
    }

    /** "of these the least": where one byte has two. */
    private static void ofTheseTheLeast() {
        // 1 ahead of 2: a NUMBER of four figures where none can stand.
        Check.fault("1234;", 1, 0);
        Check.fault("part 1 1 1234;", 1, 9);
        Check.fault("part 1 1;mouth 0 9999;", 1, 17);
        // 1 ahead of 3: an eighth 'part' or 'interest' again where no word can stand.
        Check.fault("interest 1 interest 1;", 1, 11);
        Check.fault("interest 1;interest;", 3, 11);
        Check.fault(PARTS_7 + "mouth part", 1, 69);
        Check.fault(States.WINTERS_5 + "interest winter", 1, States.WINTERS_5.length() + 9);
        // 2 ahead of 4: a MOUTH or a way again, or Q like P, by a NUMBER of four figures; Q like P that was not told.
        Check.fault("part 1 1;mouth 0;mouth 0000;", 2, 23);
        Check.fault("part 1 1;way 0 0000;", 2, 15);
        Check.fault("part 1 1;part 1 1;way 0 1;way 0 0001;", 2, 32);
        Check.fault("part 1 1;way 1 1;", 2, 13);
    }
}
