import java.nio.charset.StandardCharsets;

/** What the tests share: making objects from a text, comparing answers, counting. */
final class Check {
    private static int passed = 0;
    private static int failed = 0;

    private Check() {
    }

    static void due(String what, long got, long want) {
        if (got == want) {
            passed++;
        } else {
            failed++;
            System.out.println(what + " answered " + got + ", due is " + want);
        }
    }

    /** Feeds a text by eight bytes at a time; its signs are bytes 0 to 255. */
    static int feed(CaveYears x, String text) {
        byte[] bytes = text.getBytes(StandardCharsets.ISO_8859_1);
        int had = x.told(5);
        for (int from = 0; from < bytes.length; from += 8) {
            int n = Math.min(8, bytes.length - from);
            long word = 0;
            for (int k = 0; k < n; k++) {
                word = word << 8 | bytes[from + k] & 255;
            }
            had = x.feed(n, word);
        }
        return had;
    }

    static CaveYears caveOf(String text) {
        CaveYears x = new CaveYears();
        feed(x, text);
        int parts = x.cave();
        if (parts < 0) {
            due("cave() of '" + text + "'", parts, 0);
        }
        return x;
    }

    static void spendAll(CaveYears x, int... parts) {
        x.forget();
        for (int p : parts) {
            x.spend(p);
        }
    }

    /** All that can be read of an object without a change, in one text. */
    static String stateOf(CaveYears x) {
        StringBuilder s = new StringBuilder();
        s.append(x.fault());
        for (int what = 0; what <= 11; what++) {
            s.append(' ').append(x.told(what));
        }
        for (int p = 0; p < 7; p++) {
            s.append('/').append(x.part(p, 0)).append(' ').append(x.part(p, 1)).append(' ').append(x.part(p, 2));
        }
        for (int q = 0; q < 6; q++) {
            s.append('/').append(x.person(q, 0)).append(' ').append(x.person(q, 1)).append(' ').append(x.person(q, 2));
        }
        s.append('/').append(x.judge()).append(' ').append(x.fits());
        for (int i = -1; i < 8; i++) {
            s.append(' ').append(x.fewest(i));
        }
        int seed = x.seed(0);
        x.seed(seed);
        return s.append(' ').append(seed).toString();
    }

    /** Who there is and since when: what an image keeps, told in 22 calls. */
    private static String folkOf(CaveYears x) {
        StringBuilder s = new StringBuilder();
        s.append(x.told(6)).append(' ').append(x.told(7));
        for (int q = 0; q < 6; q++) {
            s.append('/').append(x.person(q, 0)).append(' ').append(x.person(q, 1)).append(' ').append(x.person(q, 2));
        }
        int seed = x.seed(0);
        x.seed(seed);
        return s.append(' ').append(seed).toString();
    }

    /** All that an object holds, also what only later calls bring out, in some 260 calls: it is of no use behind this. */
    static String allOf(CaveYears x) {
        StringBuilder s = new StringBuilder(stateOf(x));
        for (int a = 0; a < 8; a++) {
            for (int b = 0; b < a; b++) {
                s.append(' ').append(x.canBeOne(a, b));
            }
        }
        for (int q = 0; q < 6; q++) {
            s.append(' ').append(x.enter(q));
        }
        s.append('|').append(folkOf(x));
        for (int i = 0; i < 2; i++) {
            s.append('|').append(x.goBack(i)).append(' ').append(folkOf(x));
        }
        s.append('|').append(x.drift(3)).append(' ').append(folkOf(x));
        return s.append('|').append(x.cave()).append(' ').append(stateOf(x)).toString();
    }

    /** Makes an object, and another one just like it when it is asked again. */
    interface Maker {
        CaveYears make();
    }

    interface Call {
        int on(CaveYears x);
    }

    /** The call is refused, and the object is behind it as one that was never asked. */
    static void refused(String what, Maker maker, Call call, int want) {
        CaveYears asked = maker.make();
        due(what, call.on(asked), want);
        same(what + ": nothing is changed", allOf(asked), allOf(maker.make()));
    }

    static void same(String what, String got, String want) {
        due(what + " (was " + want + ", is " + got + "): same", got.equals(want) ? 1 : 0, 1);
    }

    /** A text without a fault: how many parts it tells. */
    static void good(String text, int parts) {
        CaveYears x = new CaveYears();
        feed(x, text);
        due("cave() of '" + text + "'", x.cave(), parts);
        due("fault() of '" + text + "'", x.fault(), -1);
    }

    static void fault(String text, int kind, int place) {
        CaveYears x = new CaveYears();
        feed(x, text);
        due("cave() of '" + text + "'", x.cave(), -10 - kind);
        due("fault() of '" + text + "'", x.fault(), place);
    }

    static void finish() {
        System.out.println(passed + " passed, " + failed + " failed");
        if (failed != 0) {
            System.exit(1);
        }
    }
}
