import java.util.Random;

/** Promises 1 to 28: no arguments throw in any state, and what is refused changes nothing. */
public final class SturdyTest {
    private static final int[] NUMBERS = {-1, 0, 1, 2, 3, 4, 5, 6, 7, 8, 11, 12, 39, 40, 41, 60, 99, 100, 500, 6000, 6001, 9999, 10000,
        -2, -1000000001, 99999, 100000, 9999999, 10000000, Integer.MAX_VALUE, Integer.MIN_VALUE};

    public static void main(String[] args) {
        Random random = new Random(5);
        for (int k = 0; k < 700; k++) {
            goThrough(random);
        }
        Check.finish();
    }

    /** A second object gets the same calls, but for those that are refused: in the end both are alike, within 512 calls. */
    private static void goThrough(Random random) {
        CaveYears asked = new CaveYears();
        CaveYears plain = new CaveYears();
        for (int call = 0; call < 150; call++) {
            if (call == 10 || call == 130 && random.nextInt(8) == 0) {
                String text = new RandomCave(random, 7).text;
                tell(asked, text);
                tell(plain, text);
            }
            int c = random.nextInt(27);
            int a = number(random);
            int b = number(random);
            long draws = random.nextLong();
            String what = "call " + c + "(" + a + ", " + b + ")";
            int answer = 0;
            String thrown = "";
            try {
                answer = call(asked, c, a, b, new Random(draws));
                if (answer > -1000000001) {
                    Check.due(what + " of the other one", call(plain, c, a, b, new Random(draws)), answer);
                }
            } catch (RuntimeException e) {
                thrown = e.toString();
            }
            Check.same(what + " throws nothing", thrown, "");
        }
        Check.same("refusals changed nothing", Check.allOf(asked), Check.allOf(plain));
    }

    private static void tell(CaveYears x, String text) {
        x.cave();
        Check.feed(x, text);
        Check.due("cave() of " + text, x.cave() > 0 ? 1 : 0, 1);
    }

    private static int number(Random random) {
        return random.nextInt(3) == 0 ? NUMBERS[random.nextInt(NUMBERS.length)] : random.nextInt(7);
    }

    private static int call(CaveYears x, int c, int a, int b, Random random) {
        switch (c) {
            case 0: return x.feed(a, random.nextLong());
            case 1: return random.nextInt(10) == 0 ? x.cave() : x.fault();
            case 2: return x.told(a);
            case 3: return x.part(a, b);
            case 4: return x.person(a, b);
            case 5: return x.spend(a);
            case 6: return random.nextInt(4) == 0 ? x.forget() : x.judge();
            case 7: return x.enter(a);
            case 8: return x.pass(a);
            case 9: return x.drift(a);
            case 10: return x.just(a, b, number(random), random.nextBoolean(), number(random));
            case 11: return x.span(a, b, number(random), number(random));
            case 12: return x.longest(a, b);
            case 13: return x.meeting(a, b, number(random));
            case 14: return x.sum(a, b);
            case 15: return x.sitOut(a);
            case 16: return x.tryOut(a, b);
            case 17: return x.fits();
            case 18: return x.line(a, b);
            case 19: return x.canBeOne(a, b);
            case 20: return x.fewest(a);
            case 21: return random.nextInt(9) == 0 ? x.tear() : 0;
            case 22: return x.seed(a);
            case 23: return x.keep(a);
            case 24: return x.goBack(a);
            case 25: return x.just(random.nextInt(7), random.nextInt(7), random.nextInt(6001), true, a);
            default: return x.just(random.nextInt(7), random.nextInt(7), random.nextInt(6001), false, a);
        }
    }
}
