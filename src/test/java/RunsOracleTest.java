import java.nio.charset.StandardCharsets;
import java.util.Random;

/** Promises 1 to 28: whole runs of up to 512 calls, caves told anew among them, beside the same calls of PlainCave. */
public final class RunsOracleTest {
    /** Of the 512 calls that an object has; one question takes up to six. */
    private static final int CALLS = 506;
    private static final int[] EDGES = {-2, -1, 7, 8, 9, 10, 11, 12, 39, 40, 41, 99, 100, 200, 201, 500, 501, 6000, 6001, 9999, 10000,
        99999, 100000, 9999999, 10000000, -1000000001, Integer.MAX_VALUE, Integer.MIN_VALUE};

    private final Random random;
    private final CaveYears x = new CaveYears();
    private final PlainCave plain = new PlainCave();
    private RandomCave told;
    private int calls = 0;

    private RunsOracleTest(Random random) {
        this.random = random;
        told = new RandomCave(random, 7);
    }

    public static void main(String[] args) {
        Random random = new Random(9);
        for (int k = 0; k < 250; k++) {
            new RunsOracleTest(random).goThrough();
        }
        Check.finish();
    }

    private void goThrough() {
        for (int k = 0; k < 6; k++) {
            askAnything();
        }
        while (calls < CALLS - 140) {
            tell();
            int next = calls + 60 + random.nextInt(400);
            while (calls < next && calls < CALLS) {
                askAnything();
            }
        }
        Check.due("calls are 512 at most", calls <= 512 ? 1 : 0, 1);
    }

    private void same(String call, int got, int want) {
        calls++;
        Check.due("call " + calls + ", " + call + ", with '" + told.text + "'", got, want);
    }

    /** A text without a fault; ahead of it, at times, one with a FAULT or one of blanks. */
    private void tell() {
        askCave();
        if (random.nextBoolean()) {
            feed(random.nextBoolean() ? "part 1 1;mouth 0;mouth 0" : "   ");
            askCave();
        }
        told = new RandomCave(random, 7);
        feed(told.text);
        askCave();
        same("told(0)", x.told(0), told.parts);
    }

    private void askCave() {
        same("cave()", x.cave(), plain.cave(told));
        same("fault()", x.fault(), plain.fault());
    }

    private void feed(String text) {
        byte[] bytes = text.getBytes(StandardCharsets.ISO_8859_1);
        for (int from = 0; from < bytes.length; from += 8) {
            int n = Math.min(8, bytes.length - from);
            long word = random.nextInt(100);
            for (int k = 0; k < n; k++) {
                word = word << 8 | bytes[from + k];
            }
            same("feed(" + n + ", " + word + ")", x.feed(n, word), plain.feed(n, word));
        }
    }

    private int number(int bound) {
        return random.nextInt(12) == 0 ? EDGES[random.nextInt(EDGES.length)] : random.nextInt(bound);
    }

    private void askAnything() {
        int kind = random.nextInt(8);
        if (kind < 3) {
            askStays();
        } else if (kind < 4) {
            askTold();
        } else if (kind < 5) {
            askTried();
        } else if (kind < 6) {
            askRegisters();
        } else if (kind < 7) {
            askImages();
        } else {
            askTimes();
        }
    }

    private void askTold() {
        int a = number(12);
        int p = number(7);
        int q = number(6);
        int what = number(3);
        same("told(" + a + ")", x.told(a), plain.told(a));
        same("part(" + p + ", " + what + ")", x.part(p, what), plain.part(p, what));
        same("person(" + q + ", " + what + ")", x.person(q, what), plain.person(q, what));
        if (random.nextInt(8) == 0) {
            long bytes = random.nextLong();
            same("feed(" + a + ", " + bytes + ")", x.feed(a, bytes), plain.feed(a, bytes));
        }
    }

    /** A DAY is mostly one in the same PART again, so that some STAYS are not WRONG. */
    private void askStays() {
        int p = number(7);
        int q = number(6);
        switch (random.nextInt(6)) {
            case 0:
                same("forget()", x.forget(), plain.forget());
                for (int days = random.nextInt(5); days >= 0; days--) {
                    same("spend(" + p + ")", x.spend(p), plain.spend(p));
                }
                break;
            case 1:
                same("spend(" + p + ")", x.spend(p), plain.spend(p));
                break;
            case 2:
                same("judge()", x.judge(), plain.judge());
                break;
            case 3:
                same("enter(" + q + ")", x.enter(q), plain.enter(q));
                break;
            case 4:
                int n = number(random.nextInt(4) == 0 ? 3000 : 90);
                same("pass(" + n + ")", x.pass(n), plain.pass(n));
                break;
            default:
                int times = number(random.nextInt(4) == 0 ? 100 : 8);
                same("drift(" + times + ")", x.drift(times), plain.drift(times));
                break;
        }
    }

    private void askTimes() {
        int from = number(7);
        int to = random.nextBoolean() ? from : number(7);
        int d = random.nextInt(20) == 0 ? number(50) : 1 + random.nextInt(40);
        int what = number(2);
        same("span(" + from + ", " + to + ", " + d + ", " + what + ")", x.span(from, to, d, what), plain.span(from, to, d, what));
        same("longest(" + d + ", " + what + ")", x.longest(d, what), plain.longest(d, what));
        same("sitOut(" + from + ")", x.sitOut(from), plain.sitOut(from));
        int t = number(random.nextInt(30) == 0 ? 6001 : 500);
        boolean atLeast = random.nextBoolean();
        int i = random.nextBoolean() ? -1 : number(5);
        same("just(" + from + ", " + to + ", " + t + ", " + atLeast + ", " + i + ")", x.just(from, to, t, atLeast, i),
            plain.just(from, to, t, atLeast, i));
        int q = number(6);
        int r = number(6);
        int of = number(3);
        same("meeting(" + q + ", " + r + ", " + of + ")", x.meeting(q, r, of), plain.meeting(q, r, of));
        int date = random.nextInt(4) == 0 ? number(10000000) : Math.max(0, plain.told(6)) + number(900);
        same("sum(" + q + ", " + date + ")", x.sum(q, date), plain.sum(q, date));
    }

    private void askTried() {
        int d = number(6) + 1;
        int rate = plain.part(random.nextInt(7), 0);
        int t = random.nextInt(4) == 0 ? number(100) : Math.max(0, rate) * (d & 63);
        same("tryOut(" + d + ", " + t + ")", x.tryOut(d, t), plain.tryOut(d, t));
        same("fits()", x.fits(), plain.fits());
        if (random.nextInt(6) == 0) {
            same("tear()", x.tear(), plain.tear());
        }
    }

    private void askRegisters() {
        int date = number(10);
        int age = number(9);
        int a = number(8);
        int b = number(8);
        same("line(" + date + ", " + age + ")", x.line(date, age), plain.line(date, age));
        same("canBeOne(" + a + ", " + b + ")", x.canBeOne(a, b), plain.canBeOne(a, b));
        same("fewest(" + a + ")", x.fewest(a), plain.fewest(a));
        same("fewest(-1)", x.fewest(-1), plain.fewest(-1));
    }

    private void askImages() {
        int i = number(2);
        int v = number(Integer.MAX_VALUE);
        switch (random.nextInt(6)) {
            case 0: same("seed(" + v + ")", x.seed(v), plain.seed(v)); break;
            case 1:
            case 2: same("keep(" + i + ")", x.keep(i), plain.keep(i)); break;
            default: same("goBack(" + i + ")", x.goBack(i), plain.goBack(i)); break;
        }
    }
}
