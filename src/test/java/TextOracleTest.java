import java.util.ArrayList;
import java.util.HashSet;
import java.util.List;
import java.util.Random;
import java.util.Set;
import java.util.regex.Matcher;
import java.util.regex.Pattern;

/** Promises 3, 4 against a second reader that cuts the text into words first. */
public final class TextOracleTest {
    private static final String[] WORDS = {"part", "mouth", "way", "person", "interest", "winter"};
    private static final int[] MOST = {7, 99, 12, 6, 1, 5};
    private static final int[] NUMBERS = {2, 1, 2, 2, 1, 2};
    private static final int[][] LOW = {{1, 1}, {0}, {0, 0}, {0, 0}, {0}, {0, 1}};
    private static final int[][] HIGH = {{9, 6}, {-1}, {-1, -1}, {99, 999}, {50}, {90, 9}};
    private static final Pattern TOKEN = Pattern.compile(" +|[a-z]+|[0-9]+|(?s).");

    public static void main(String[] args) {
        Random random = new Random(4);
        int good = 0;
        for (int k = 0; k < 30000; k++) {
            String text = randomText(random);
            int[] want = read(text);
            CaveYears x = new CaveYears();
            Check.feed(x, text);
            Check.due("cave() of '" + text + "'", x.cave(), want[0]);
            Check.due("fault() of '" + text + "'", x.fault(), want[1]);
            good += want[0] >= 0 ? 1 : 0;
        }
        Check.due("there were good texts and faulty ones", good > 3000 && good < 27000 ? 1 : 0, 1);
        Check.finish();
    }

    private static String randomText(Random random) {
        if (random.nextInt(4) == 0) {
            return mutated(new RandomCave(random, 7).text, random, random.nextInt(3));
        }
        StringBuilder s = new StringBuilder();
        int clauses = random.nextInt(12);
        for (int k = 0; k < clauses; k++) {
            int clause = k < 2 ? 0 : random.nextInt(4) == 0 ? random.nextInt(6) : random.nextInt(3);
            s.append(WORDS[clause]);
            for (int n = 0; n < NUMBERS[clause]; n++) {
                int high = HIGH[clause][n] < 0 ? 1 : HIGH[clause][n];
                s.append(' ').append(LOW[clause][n] + random.nextInt(high - LOW[clause][n] + 1));
            }
            s.append(';');
        }
        return mutated(s.toString(), random, random.nextInt(2));
    }

    private static String mutated(String text, Random random, int times) {
        StringBuilder s = new StringBuilder(text);
        String signs = "  ;;0019azAp\t\u00ff";
        for (int k = 0; k < times && s.length() > 1; k++) {
            int at = random.nextInt(s.length());
            switch (random.nextInt(4)) {
                case 0: s.deleteCharAt(at); break;
                case 1: s.insert(at, signs.charAt(random.nextInt(signs.length()))); break;
                case 2: s.setCharAt(at, signs.charAt(random.nextInt(signs.length()))); break;
                default: s.setLength(at); break;
            }
        }
        return s.length() > 500 ? s.substring(0, 500) : s.toString();
    }

    /** What cave() and fault() answer. */
    static int[] read(String text) {
        List<String> tokens = new ArrayList<>();
        List<Integer> places = new ArrayList<>();
        Matcher m = TOKEN.matcher(text);
        while (m.find()) {
            if (m.group().charAt(0) != ' ') {
                tokens.add(m.group());
                places.add(m.start());
            }
        }
        tokens.add("");
        places.add(text.length());
        int[] told = new int[6];
        Set<String> once = new HashSet<>();
        for (int k = 0; k < tokens.size() - 1;) {
            int kind = faultOfClause(tokens, k, told, once);
            if (kind != 0) {
                return new int[] {-10 - kind % 10, places.get(k + kind / 10)};
            }
            k += clauseLength(tokens.get(k));
        }
        return new int[] {told[0], -1};
    }

    private static int clauseOf(String word) {
        return java.util.Arrays.asList(WORDS).indexOf(word);
    }

    private static int clauseLength(String word) {
        return NUMBERS[clauseOf(word)] + 2;
    }

    /** 10 times the token's place in the clause and the kind of its fault; 0: none. */
    private static int faultOfClause(List<String> tokens, int at, int[] told, Set<String> once) {
        int clause = clauseOf(tokens.get(at));
        if (clause < 0) {
            return 1;
        }
        if (told[clause] == MOST[clause]) {
            return 3;
        }
        int[] numbers = new int[2];
        for (int n = 0; n < NUMBERS[clause]; n++) {
            String figures = tokens.get(at + 1 + n);
            if (!figures.matches("[0-9]+")) {
                return 10 * (1 + n) + 1;
            }
            int high = HIGH[clause][n] < 0 ? told[0] - 1 : HIGH[clause][n];
            if (figures.length() > 3 || Integer.parseInt(figures) < LOW[clause][n] || Integer.parseInt(figures) > high) {
                return 10 * (1 + n) + 2;
            }
            numbers[n] = Integer.parseInt(figures);
            int a = Math.min(numbers[0], numbers[1]);
            int b = Math.max(numbers[0], numbers[1]);
            if (clause == 1 && !once.add("mouth " + numbers[0])) {
                return 14;
            }
            if (clause == 2 && n == 1 && (a == b || !once.add("way " + a + " " + b))) {
                return 24;
            }
        }
        if (!tokens.get(at + 1 + NUMBERS[clause]).equals(";")) {
            return 10 * (1 + NUMBERS[clause]) + 1;
        }
        told[clause]++;
        return 0;
    }
}
