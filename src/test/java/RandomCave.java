import java.util.Random;

/** A cave drawn by chance from a fixed seed, with its text. */
final class RandomCave {
    final int parts;
    final int[] rate;
    final boolean[] mouth;
    final boolean[][] way;
    final int persons;
    final int[] years;
    final int[] sums;
    final int interest;
    final int winters;
    final int[] from;
    final int[] on;
    final String text;

    RandomCave(Random random, int mostParts) {
        StringBuilder s = new StringBuilder();
        parts = 1 + random.nextInt(mostParts);
        rate = new int[parts];
        mouth = new boolean[parts];
        way = new boolean[parts][parts];
        for (int p = 0; p < parts; p++) {
            int n = 1 + random.nextInt(9);
            int d = 1 + random.nextInt(6);
            rate[p] = 60 * n / d;
            s.append("part ").append(n).append(' ').append(d).append(';');
        }
        for (int p = 0; p < parts; p++) {
            mouth[p] = random.nextInt(3) > 0;
            if (mouth[p]) {
                s.append("mouth ").append(p).append(';');
            }
        }
        int ways = 0;
        for (int k = 0; k < 20; k++) {
            int p = random.nextInt(parts);
            int q = random.nextInt(parts);
            if (p != q && !way[p][q] && ways < 12 && random.nextInt(3) > 0) {
                way[p][q] = true;
                way[q][p] = true;
                ways++;
                s.append("way ").append(p).append(' ').append(q).append(';');
            }
        }
        persons = 1 + random.nextInt(6);
        years = new int[persons];
        sums = new int[persons];
        for (int q = 0; q < persons; q++) {
            years[q] = random.nextInt(100);
            sums[q] = random.nextInt(1000);
            s.append("person ").append(years[q]).append(' ').append(sums[q]).append(';');
        }
        interest = random.nextInt(51);
        s.append("interest ").append(interest).append(';');
        winters = random.nextInt(6);
        from = new int[winters];
        on = new int[winters];
        for (int w = 0; w < winters; w++) {
            from[w] = random.nextInt(91);
            on[w] = 1 + random.nextInt(9);
            s.append("winter ").append(from[w]).append(' ').append(on[w]).append(';');
        }
        text = s.toString();
    }

    boolean mayFollow(int p, int q) {
        return p == q || way[p][q];
    }
}
