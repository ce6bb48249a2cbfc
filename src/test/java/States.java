/** Objects in the states that the tests of the bounds begin with: bare, busy, full. */
final class States {
    static final String PARTS_7 = "part 1 1;part 2 1;part 3 1;part 4 1;part 5 1;part 6 1;part 7 1;";
    static final String MOUTHS_7 = "mouth 0;mouth 1;mouth 2;mouth 3;mouth 4;mouth 5;mouth 6;";
    static final String WAYS_12 = "way 0 1;way 0 2;way 0 3;way 0 4;way 0 5;way 0 6;way 1 2;way 1 3;way 1 4;way 1 5;way 1 6;way 2 3;";
    static final String PERSONS_6 = "person 0 0;person 10 1;person 20 10;person 30 100;person 40 500;person 99 999;";
    static final String WINTERS_5 = "winter 0 1;winter 1 2;winter 9 9;winter 50 1;winter 90 9;";
    /** RATES 60, 90, 15, 60; no MOUTH at 1 and 3. */
    static final String CAVE = "part 1 1;part 3 2;part 1 4;part 2 2;mouth 0;mouth 2;way 0 1;way 1 2;way 1 3;"
            + "person 20 100;person 30 7;person 5 999;interest 10;winter 2 1;winter 6 3;";

    private States() {
    }

    static CaveYears bare() {
        return new CaveYears();
    }

    /** A little of all: at DATE 57, PERSON 0 DOWN till 172, IMAGE 0 of DATE 7 alone, a text begun, a FAULT at 3. */
    static CaveYears busy() {
        CaveYears x = Check.caveOf(CAVE);
        Check.feed(x, "way");
        x.cave();
        x.seed(77);
        x.pass(7);
        x.keep(0);
        Check.spendAll(x, 0, 1, 2);
        x.enter(0);
        x.pass(50);
        x.seed(1234567);
        x.tryOut(2, 120);
        x.tryOut(1, 60);
        x.line(10, 30);
        x.line(12, 31);
        x.line(12, 33);
        Check.feed(x, "part 2 1;mouth 0;person 1 1;mo");
        return x;
    }

    /** No more of anything: 7 PARTS, 12 ways, 6 PERSONS (all DOWN), 5 winters, 40 DAYS, 10 TRIED, 8 lines, 500 bytes. */
    static CaveYears full() {
        CaveYears x = Check.caveOf(PARTS_7 + MOUTHS_7 + WAYS_12 + PERSONS_6 + "interest 50;" + WINTERS_5);
        x.keep(0);
        for (int k = 0; k < 40; k++) {
            x.spend(k % 2);
        }
        for (int q = 0; q < 6; q++) {
            x.enter(q);
        }
        x.pass(100);
        x.keep(1);
        for (int k = 0; k < 10; k++) {
            x.tryOut(k + 1, 60 * (k + 1));
        }
        for (int k = 0; k < 8; k++) {
            x.line(k, 10 + k);
        }
        Check.feed(x, "part 1 1;" + " ".repeat(491));
        return x;
    }
}
