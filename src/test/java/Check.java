import java.util.NoSuchElementException;

/** What the tests share: a count of checks, and tapes told as texts or bytes. */
final class Check {
    static final int LEAST = Integer.MIN_VALUE;
    static final int GREATEST = Integer.MAX_VALUE;

    private static int passed;
    private static int failed;
    private static String sentence = "";

    private Check() { }

    /** The sentence of the document that the checks from here on hold the class to. */
    static void sentence(String words) {
        sentence = "'" + words + "': ";
    }

    static void due(String what, long got, long want) {
        if (got == want) {
            passed++;
            return;
        }
        failed++;
        System.out.println(sentence + what + ": answered " + got + ", due is " + want);
    }

    static void due(String what, boolean got, boolean want) {
        due(what, got ? 1 : 0, want ? 1 : 0);
    }

    interface Call {
        long answer();
    }

    static void refused(String what, Call call) {
        int thrown = 0;
        try {
            call.answer();
        } catch (NoSuchElementException e) {
            thrown = 1;
        }
        due(what + " throws NoSuchElementException", thrown, 1);
    }

    static void close() {
        System.out.println(passed + " checks hold, " + failed + " do not");
        if (failed > 0) {
            System.exit(1);
        }
    }

    static void tape(LotOffice x, int... bytes) {
        x.end(0);
        int[] n = new int[5];
        for (int i = 0; i < bytes.length; i += 20) {
            for (int k = 0; k < 5; k++) {
                n[k] = 0;
                for (int j = 0; j < 4; j++) {
                    int at = i + k * 4 + j;
                    n[k] = n[k] << 8 | (at < bytes.length ? bytes[at] & 255 : 0);
                }
            }
            x.feed(n[0], n[1], n[2], n[3], n[4]);
        }
        x.end(bytes.length);
    }

    static void tape(LotOffice x, String text) {
        int[] bytes = new int[text.length()];
        for (int i = 0; i < bytes.length; i++) {
            bytes[i] = text.charAt(i);
        }
        tape(x, bytes);
    }

    static int man(LotOffice x, String name, int parish, int father) {
        tape(x, name);
        return x.man(parish, father);
    }

    /** A man whose BIRTH is told at once. */
    static int man(LotOffice x, String name, int parish, int father, int year, int week) {
        int m = man(x, name, parish, father);
        x.birth(m, year, week);
        return m;
    }

    /** So many men of AGE 21 in a PARISH, each of another week of BIRTH than the one ahead, and of a FATHER of his own. */
    static void men(LotOffice x, int n, int parish) {
        for (int i = 0; i < n; i++) {
            man(x, "a", parish, i % 60, -22, 1 + i % 51);
        }
    }

    static LotOffice office(int men) {
        LotOffice x = new LotOffice();
        men(x, men, 0);
        return x;
    }

    static int law(LotOffice x, String text, int from) {
        tape(x, text);
        return x.law(from);
    }

    static int[] like(int n, int value) {
        int[] all = new int[n];
        for (int i = 0; i < n; i++) {
            all[i] = value;
        }
        return all;
    }

    static int[] upTo(int n) {
        int[] all = new int[n];
        for (int i = 0; i < n; i++) {
            all[i] = i;
        }
        return all;
    }

    static int[] downFrom(int n) {
        int[] all = new int[n];
        for (int i = 0; i < n; i++) {
            all[i] = n - 1 - i;
        }
        return all;
    }
}
