import java.util.Random;

/** Promises 7, 8 to 13, 17, 18, 27, 28 against a world that goes on tick by tick. */
public final class WorldOracleTest {
    private static final class World {
        int date;
        int[] age;
        long[] sum;
        int[] out;

        World(RandomCave c) {
            age = new int[c.persons];
            sum = new long[c.persons];
            out = new int[c.persons];
            for (int q = 0; q < c.persons; q++) {
                age[q] = c.years[q] * 60;
                sum[q] = c.sums[q];
                out[q] = -1;
            }
        }

        World copy(RandomCave c) {
            World w = new World(c);
            w.date = date;
            w.age = age.clone();
            w.sum = sum.clone();
            w.out = out.clone();
            return w;
        }

        void tick(int interest) {
            date++;
            for (int q = 0; q < age.length; q++) {
                if (out[q] < 0) {
                    age[q]++;
                }
                if (out[q] == date) {
                    out[q] = -1;
                }
                if (date % 60 == 0) {
                    sum[q] = Math.min(999999999L, sum[q] + sum[q] * interest / 100);
                }
            }
        }
    }

    public static void main(String[] args) {
        Random random = new Random(2);
        for (int k = 0; k < 600; k++) {
            goThrough(new RandomCave(random, 7), random);
        }
        Check.finish();
    }

    private static void goThrough(RandomCave c, Random random) {
        CaveYears x = Check.caveOf(c.text);
        World w = new World(c);
        World[] images = new World[2];
        // An object answers as the document has it for 512 calls: twelve steps take less.
        for (int step = 0; step < 12; step++) {
            int q = random.nextInt(c.persons);
            switch (random.nextInt(6)) {
                case 0:
                case 1:
                    goIn(c, x, w, q, random);
                    break;
                case 2:
                case 3:
                    int n = 1 + random.nextInt(random.nextInt(4) == 0 ? 2000 : 90);
                    for (int k = 0; k < n; k++) {
                        w.tick(c.interest);
                    }
                    Check.due("pass(" + n + ") of " + c.text, x.pass(n), w.date);
                    break;
                case 4:
                    images[step % 2] = w.copy(c);
                    Check.due("keep", x.keep(step % 2), 1);
                    break;
                default:
                    Check.due("goBack", x.goBack(step % 2), images[step % 2] == null ? CaveYears.NOT : 1);
                    w = images[step % 2] == null ? w : images[step % 2].copy(c);
                    break;
            }
            compare(c, x, w, random);
        }
    }

    private static void goIn(RandomCave c, CaveYears x, World w, int q, Random random) {
        x.forget();
        int days = random.nextInt(7);
        int p = random.nextInt(c.parts);
        int time = 0;
        int wrong = -1;
        int last = p;
        for (int k = 0; k < days; k++) {
            if (k > 0 && random.nextInt(3) == 0) {
                p = random.nextInt(c.parts);
            }
            if (wrong < 0 && (k == 0 ? !c.mouth[p] : !c.mayFollow(last, p))) {
                wrong = k;
            }
            last = p;
            time += c.rate[p];
            Check.due("spend", x.spend(p), k + 1);
        }
        if (days > 0 && wrong < 0 && !c.mouth[last]) {
            wrong = days;
        }
        Check.due("judge of " + c.text, x.judge(), wrong);
        Check.due("time", x.told(9), time);
        if (days == 0 || wrong >= 0 || w.out[q] >= 0) {
            Check.due("enter that is refused", x.enter(q), CaveYears.NOT);
            return;
        }
        w.age[q] += days;
        w.out[q] = w.date + time;
        Check.due("enter", x.enter(q), w.out[q]);
    }

    private static void compare(RandomCave c, CaveYears x, World w, Random random) {
        Check.due("date", x.told(6), w.date);
        int down = 0;
        for (int q = 0; q < c.persons; q++) {
            Check.due("age", x.person(q, 0), w.age[q]);
            Check.due("sum", x.person(q, 1), w.sum[q]);
            Check.due("out", x.person(q, 2), w.out[q]);
            down |= w.out[q] >= 0 ? 1 << q : 0;
        }
        Check.due("down", x.told(7), down);
        int q = random.nextInt(c.persons);
        int r = random.nextInt(c.persons);
        if (q != r) {
            World then = w.copy(c);
            while (then.out[q] >= 0 || then.out[r] >= 0) {
                then.tick(c.interest);
            }
            Check.due("meeting date", x.meeting(q, r, 0), then.date);
            Check.due("meeting age q", x.meeting(q, r, 1), then.age[q]);
            Check.due("meeting age r", x.meeting(q, r, 2), then.age[r]);
        }
        World later = w.copy(c);
        int ticks = random.nextInt(500);
        for (int k = 0; k < ticks; k++) {
            later.tick(c.interest);
        }
        Check.due("sum at a date", x.sum(q, w.date + ticks), later.sum[q]);
    }
}
