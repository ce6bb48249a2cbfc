import java.util.ArrayList;
import java.util.Arrays;
import java.util.HashMap;
import java.util.List;
import java.util.Map;

/** The document's calls once more, slow and plain: TICK by TICK, from a STAY's first DAY on, all ways to give lines to men. */
final class PlainCave {
    private static final int NONE = -1, UNKNOWN = -1000000001, OUTSIDE = -1000000002, NOT = -1000000003, FULL = -1000000004;

    private static final class Person {
        int age;
        long sum;
        int out = NONE;

        Person copy() {
            Person one = new Person();
            one.age = age;
            one.sum = sum;
            one.out = out;
            return one;
        }
    }

    /** What IMAGES keep. */
    private static final class World {
        int date;
        long seed;
        List<Person> persons = new ArrayList<>();

        World copy() {
            World w = new World();
            w.date = date;
            w.seed = seed;
            for (Person one : persons) {
                w.persons.add(one.copy());
            }
            return w;
        }

        void tick(int interest) {
            date++;
            for (Person one : persons) {
                one.age += one.out == NONE ? 1 : 0;
                one.out = one.out == date ? NONE : one.out;
                one.sum = date % 60 == 0 ? Math.min(999999999, one.sum + one.sum * interest / 100) : one.sum;
            }
        }

        int draw(int n) {
            seed = (seed * 1103515245L + 12345) % 2147483648L;
            return (int) (seed / 65536 % n);
        }
    }

    private String text = "";
    private int fault = NONE;
    private RandomCave den;
    private World world = new World();
    private final World[] images = new World[2];
    private final List<Integer> stay = new ArrayList<>();
    private final List<int[]> tried = new ArrayList<>();
    private final List<int[]> lines = new ArrayList<>();

    private int parts() {
        return den == null ? 0 : den.parts;
    }

    private int interest() {
        return den == null ? 0 : den.interest;
    }

    private boolean isPart(int p) {
        return p >= 0 && p < parts();
    }

    private boolean isMouth(int p) {
        return isPart(p) && den.mouth[p];
    }

    private boolean isPerson(int q) {
        return q >= 0 && q < world.persons.size();
    }

    private static boolean isIn(int n, int low, int high) {
        return n >= low && n <= high;
    }

    int feed(int n, long bytes) {
        if (!isIn(n, 1, 8)) {
            return OUTSIDE;
        }
        if (text.length() + n > 500) {
            return FULL;
        }
        String more = "";
        for (int k = 0; k < n; k++) {
            more = (char) (bytes >> 8 * k & 255) + more;
        }
        text += more;
        return text.length();
    }

    /** The text is one of told's, or one with a fault, or blank: what a text tells is TextOracleTest's. */
    int cave(RandomCave told) {
        String was = text;
        text = "";
        int[] read = TextOracleTest.read(was);
        fault = read[1];
        if (read[0] < 0) {
            return read[0];
        }
        den = was.equals(told.text) ? told : null;
        long seed = world.seed;
        world = new World();
        world.seed = seed;
        for (int q = 0; den != null && q < den.persons; q++) {
            Person one = new Person();
            one.age = den.years[q] * 60;
            one.sum = den.sums[q];
            world.persons.add(one);
        }
        Arrays.fill(images, null);
        stay.clear();
        tried.clear();
        lines.clear();
        return parts();
    }

    int fault() {
        return fault;
    }

    int told(int what) {
        int mouths = 0;
        int down = 0;
        for (int p = 0; p < parts(); p++) {
            mouths += isMouth(p) ? 1 << p : 0;
        }
        for (int q = 0; q < world.persons.size(); q++) {
            down += world.persons.get(q).out == NONE ? 0 : 1 << q;
        }
        int[] all = {parts(), mouths, world.persons.size(), interest(), den == null ? 0 : den.winters, text.length(), world.date,
            down, stay.size(), timeOf(stay), tried.size(), lines.size()};
        return isIn(what, 0, 11) ? all[what] : OUTSIDE;
    }

    private int timeOf(List<Integer> days) {
        return days.stream().mapToInt(p -> den.rate[p]).sum();
    }

    int part(int p, int what) {
        if (!isPart(p)) {
            return UNKNOWN;
        }
        int ways = 0;
        int alike = 0;
        for (int q = 0; q < parts(); q++) {
            ways += den.way[p][q] ? 1 << q : 0;
            alike += p != q && den.rate[p] == den.rate[q] ? 1 << q : 0;
        }
        return isIn(what, 0, 2) ? new int[] {den.rate[p], ways, alike}[what] : OUTSIDE;
    }

    int person(int q, int what) {
        if (!isPerson(q)) {
            return UNKNOWN;
        }
        Person one = world.persons.get(q);
        return isIn(what, 0, 2) ? new int[] {one.age, (int) one.sum, one.out}[what] : OUTSIDE;
    }

    int spend(int p) {
        if (!isPart(p)) {
            return UNKNOWN;
        }
        if (stay.size() == 40) {
            return FULL;
        }
        stay.add(p);
        return stay.size();
    }

    int forget() {
        int had = stay.size();
        stay.clear();
        return had;
    }

    int judge() {
        for (int k = 0; k < stay.size(); k++) {
            if (k == 0 ? !isMouth(stay.get(0)) : !den.mayFollow(stay.get(k - 1), stay.get(k))) {
                return k;
            }
        }
        return stay.isEmpty() || isMouth(stay.get(stay.size() - 1)) ? NONE : stay.size();
    }

    int enter(int q) {
        if (!isPerson(q)) {
            return UNKNOWN;
        }
        if (world.persons.get(q).out != NONE || judge() != NONE || stay.isEmpty()) {
            return NOT;
        }
        goIn(q, stay);
        return world.persons.get(q).out;
    }

    private void goIn(int q, List<Integer> days) {
        world.persons.get(q).out = world.date + timeOf(days);
        world.persons.get(q).age += days.size();
    }

    int pass(int n) {
        if (!isIn(n, 1, 9999)) {
            return OUTSIDE;
        }
        for (int k = 0; k < n; k++) {
            world.tick(interest());
        }
        return world.date;
    }

    int drift(int n) {
        if (!isIn(n, 1, 99)) {
            return OUTSIDE;
        }
        if (parts() == 0 || world.persons.isEmpty()) {
            return NOT;
        }
        for (int k = 0; k < n; k++) {
            int q = world.draw(world.persons.size());
            if (world.persons.get(q).out == NONE) {
                int p = world.draw(parts());
                int days = world.draw(9) + 1;
                if (isMouth(p)) {
                    goIn(q, java.util.Collections.nCopies(days, p));
                }
            }
            for (int ticks = world.draw(60); ticks > 0; ticks--) {
                world.tick(interest());
            }
        }
        return world.date;
    }

    int just(int from, int to, int t, boolean atLeast, int i) {
        if (!isMouth(from) || !isMouth(to)) {
            return UNKNOWN;
        }
        if (!isIn(t, 0, 6000)) {
            return OUTSIDE;
        }
        Map<Integer, String> rows = new HashMap<>();
        for (int d = 1; d <= 40; d++) {
            rows = withOneDayMore(rows, d == 1 ? from : NONE, t, atLeast);
            String row = rows.get(to * 10000 + t);
            if (row != null) {
                return i == NONE ? d : isIn(i, 0, d - 1) ? row.charAt(i) - '0' : NONE;
            }
        }
        return NONE;
    }

    /** For each last PART and each TIME (what is more than t stands at t, if at least t is asked) the first row of DAYS. */
    private Map<Integer, String> withOneDayMore(Map<Integer, String> rows, int first, int t, boolean atLeast) {
        Map<Integer, String> next = new HashMap<>();
        if (first != NONE) {
            next.put(first * 10000 + cut(den.rate[first], t, atLeast), "" + first);
        }
        for (Map.Entry<Integer, String> row : rows.entrySet()) {
            for (int q = 0; q < parts(); q++) {
                int time = row.getKey() % 10000 + den.rate[q];
                if (den.mayFollow(row.getKey() / 10000, q) && (atLeast || time <= t)) {
                    next.merge(q * 10000 + cut(time, t, atLeast), row.getValue() + q, (a, b) -> a.compareTo(b) < 0 ? a : b);
                }
            }
        }
        return next;
    }

    private static int cut(int time, int t, boolean atLeast) {
        return atLeast ? Math.min(t, time) : time;
    }

    int span(int from, int to, int d, int what) {
        if (!isMouth(from) || !isMouth(to)) {
            return UNKNOWN;
        }
        return isIn(d, 1, 40) && isIn(what, 0, 1) ? spanTo(from, to, d)[what] : OUTSIDE;
    }

    private int[] spanTo(int from, int to, int d) {
        int[] least = new int[parts()];
        int[] most = new int[parts()];
        Arrays.fill(least, NONE);
        Arrays.fill(most, NONE);
        least[from] = den.rate[from];
        most[from] = den.rate[from];
        for (int k = 2; k <= d; k++) {
            int[] shorter = least.clone();
            int[] longer = most.clone();
            for (int q = 0; q < parts(); q++) {
                least[q] = NONE;
                most[q] = NONE;
                for (int p = 0; p < parts(); p++) {
                    if (den.mayFollow(p, q) && shorter[p] != NONE) {
                        least[q] = least[q] == NONE ? shorter[p] + den.rate[q] : Math.min(least[q], shorter[p] + den.rate[q]);
                        most[q] = Math.max(most[q], longer[p] + den.rate[q]);
                    }
                }
            }
        }
        return new int[] {least[to], most[to]};
    }

    int longest(int d, int what) {
        if (!isIn(d, 1, 40) || !isIn(what, 0, 1)) {
            return OUTSIDE;
        }
        int[] best = {NONE, NONE};
        for (int p = parts() - 1; p >= 0; p--) {
            if (isMouth(p) && spanTo(p, p, d)[1] >= best[1]) {
                best = new int[] {p, spanTo(p, p, d)[1]};
            }
        }
        return best[what];
    }

    int meeting(int q, int r, int what) {
        if (!isPerson(q) || !isPerson(r) || q == r) {
            return UNKNOWN;
        }
        if (!isIn(what, 0, 2)) {
            return OUTSIDE;
        }
        World then = world.copy();
        while (then.persons.get(q).out != NONE || then.persons.get(r).out != NONE) {
            then.tick(interest());
        }
        return new int[] {then.date, then.persons.get(q).age, then.persons.get(r).age}[what];
    }

    int sum(int q, int date) {
        if (!isPerson(q)) {
            return UNKNOWN;
        }
        if (!isIn(date, world.date, 9999999)) {
            return OUTSIDE;
        }
        long sum = world.persons.get(q).sum;
        for (int year = world.date / 60 + 1; year * 60 <= date; year++) {
            sum = Math.min(999999999, sum + sum * interest() / 100);
        }
        return (int) sum;
    }

    int sitOut(int p) {
        if (!isMouth(p)) {
            return UNKNOWN;
        }
        for (int d = 0; d <= 40; d++) {
            int then = world.date + (d == 0 ? 0 : spanTo(p, p, d)[1]);
            boolean left = false;
            for (int w = 0; w < den.winters; w++) {
                left |= den.from[w] * 60 >= world.date && (den.from[w] + den.on[w]) * 60 > then;
            }
            if (!left) {
                return d;
            }
        }
        return NONE;
    }

    int tryOut(int d, int t) {
        if (!isIn(d, 1, 40) || !isIn(t, 0, 99999)) {
            return OUTSIDE;
        }
        if (tried.size() == 10) {
            return FULL;
        }
        tried.add(new int[] {d, t});
        return tried.size();
    }

    int fits() {
        int set = 0;
        for (int p = 0; p < parts(); p++) {
            int rate = den.rate[p];
            set += tried.stream().allMatch(one -> one[0] * rate == one[1]) ? 1 << p : 0;
        }
        return set;
    }

    int line(int date, int age) {
        if (!isIn(date, 0, 500) || !isIn(age, 0, 200)) {
            return OUTSIDE;
        }
        if (lines.size() == 8) {
            return FULL;
        }
        lines.add(new int[] {date, age});
        return lines.size();
    }

    int canBeOne(int a, int b) {
        int last = lines.size() - 1;
        return !isIn(a, 0, last) || !isIn(b, 0, last) || a == b ? OUTSIDE : FewestOracleTest.canBeOne(lines.get(a), lines.get(b)) ? 1 : 0;
    }

    int fewest(int i) {
        if (!isIn(i, NONE, lines.size() - 1)) {
            return OUTSIDE;
        }
        int[] best = FewestOracleTest.firstOfFewest(lines.toArray(new int[0][]));
        return i == NONE ? Arrays.stream(best).max().orElse(NONE) + 1 : best[i];
    }

    int tear() {
        int had = tried.size() + lines.size();
        tried.clear();
        lines.clear();
        return had;
    }

    int seed(int v) {
        if (v < 0) {
            return OUTSIDE;
        }
        int was = (int) world.seed;
        world.seed = v;
        return was;
    }

    int keep(int i) {
        if (!isIn(i, 0, 1)) {
            return UNKNOWN;
        }
        images[i] = world.copy();
        return 1;
    }

    int goBack(int i) {
        if (!isIn(i, 0, 1)) {
            return UNKNOWN;
        }
        if (images[i] == null) {
            return NOT;
        }
        world = images[i].copy();
        return 1;
    }
}
