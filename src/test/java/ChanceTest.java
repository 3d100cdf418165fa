/** Promises 29 and 30: MIXED and DOUBT as exact fractions. */
public final class ChanceTest {
    public static void main(String[] args) {
        mixed();
        mixedByPicks();
        mixedRefused();
        greatFractions();
        doubt();
        doubtOfMany();
        doubtRefused();
        Check.close();
    }

    private static void fraction(LotOffice x, int k, int from, int to, long upper, long lower, long found) {
        String call = "mixed of " + k + " weeks, " + from + " to " + to;
        Check.due(call + ": upper", x.mixed(0, k, from, to, 0), upper);
        Check.due(call + ": lower", x.mixed(0, k, from, to, 1), lower);
        Check.due(call + ": x", x.mixed(0, k, from, to, 2), found);
    }

    private static void mixed() {
        LotOffice x = new LotOffice();
        x.lot(0, 0);
        fraction(x, 0, 0, 0, 1, 1, 0);
        fraction(x, 1, 0, 0, 1, 52, 1);
        fraction(x, 1, 1, 1, 1, 1, 0);
        fraction(x, 2, 0, 0, 1, 26, 1);
        fraction(x, 2, 0, 1, 1, 1326, 2);
        fraction(x, 2, 0, 25, 25, 102, 2);
        // one or two of 26: 1 - (26 * 25) / (52 * 51)
        fraction(x, 2, 1, 26, 77, 102, 1);
        fraction(x, 52, 7, 30, 1, 1, 24);
        fraction(x, 51, 51, 51, 1, 1, 0);
        fraction(x, 51, 50, 51, 1, 1, 1);
        fraction(x, 30, 0, 51, 1, 1, 30);
    }

    private static void mixedByPicks() {
        LotOffice x = new LotOffice();
        x.lot(9, 0);
        x.lot(9, 0);
        Check.tape(x, Check.downFrom(52));
        x.weeks(0);
        fraction(x, 3, 0, 48, 1, 1, 0);
        fraction(x, 1, 51, 51, 1, 52, 1);
        fraction(x, 5, 47, 51, 1, 2598960, 5);
        Check.due("the other LOT", x.mixed(1, 5, 47, 51, 2), 0);
    }

    private static void mixedRefused() {
        LotOffice x = new LotOffice();
        Check.refused("no LOT", () -> x.mixed(0, 1, 0, 0, 0));
        x.lot(0, 0);
        Check.refused("LOT -1", () -> x.mixed(-1, 1, 0, 0, 0));
        Check.refused("LOT 1", () -> x.mixed(1, 1, 0, 0, 0));
        Check.refused("k -1", () -> x.mixed(0, -1, 0, 0, 0));
        Check.refused("k 53", () -> x.mixed(0, 53, 0, 0, 0));
        Check.refused("from -1", () -> x.mixed(0, 1, -1, 0, 0));
        Check.refused("to 52", () -> x.mixed(0, 1, 0, 52, 0));
        Check.refused("from behind to", () -> x.mixed(0, 1, 2, 1, 0));
        Check.refused("what -1", () -> x.mixed(0, 1, 0, 0, -1));
        Check.refused("what 3", () -> x.mixed(0, 1, 0, 0, 3));
        x.feed(0, 0, 0, 0, 0);
        Check.refused("the tape stays", () -> x.mixed(9, 1, 0, 0, 3));
        Check.due("twenty bytes", x.count(9), 20);
    }

    private static void greatFractions() {
        LotOffice x = new LotOffice();
        x.lot(0, 0);
        // all 26 of the marked half picked: 1 in C(52, 26)
        fraction(x, 26, 0, 25, 1, 495918532948104L, 26);
        // 13 or more marked of 26 picks: by symmetry a half, and half of C(26, 13)^2 by C(52, 26)
        long all = 495918532948104L;
        long even = 10400600L * 10400600L;
        long upper = (all + even) / 2;
        long lower = all;
        long common = common(upper, lower);
        fraction(x, 26, 13, 38, upper / common, lower / common, 13);
    }

    private static long common(long a, long b) {
        return b == 0 ? a : common(b, a % b);
    }

    private static void doubt() {
        LotOffice x = new LotOffice();
        int a = Check.man(x, "a", 0, 0, -20, 0);
        int b = Check.man(x, "b", 0, 0);
        told(x, 0, 0, 1, 1, 0);
        x.exam(a, 0, 5);
        x.exam(b, 0, 9);
        x.exam(a, 1, 4);
        x.exam(b, 1, 0);
        x.next(1);
        x.exam(a, 0, 4);
        x.exam(a, 2, 5);
        told(x, 0, 0, 1, 6, 2);
        told(x, 1, 0, 1, 1, 0);
        told(x, 2, 0, 1, 1, 0);
        told(x, 0, -1, 1, 1, 0);
        // n 6, m 3, k 3, x 2: (3 * 3 + 1) / 20
        told(x, 0, 1, 1, 2, 2);
        told(x, 1, 1, 1, 1, 0);
        told(x, 2, 1, 1, 2, 1);
        told(x, 7, 1, 1, 1, 0);
        told(x, 2, Integer.MAX_VALUE, 1, 2, 1);
        x.same(a, b);
        told(x, 0, 1, 1, 2, 2);
    }

    private static void told(LotOffice x, int doctor, int t, long upper, long lower, long found) {
        String call = "doubt of " + doctor + " AS OF " + t;
        Check.due(call + ": upper", x.doubt(doctor, t, 0), upper);
        Check.due(call + ": lower", x.doubt(doctor, t, 1), lower);
        Check.due(call + ": x", x.doubt(doctor, t, 2), found);
    }

    private static void doubtOfMany() {
        LotOffice x = new LotOffice();
        Check.man(x, "a", 0, 0);
        for (int i = 0; i < 60; i++) {
            x.exam(0, i < 30 ? 0 : 1, i < 30 ? 9 : 0);
        }
        told(x, 0, 0, 1, 118264581564861424L, 30);
        told(x, 1, 0, 1, 1, 0);
        told(x, 3, 0, 1, 1, 0);
    }

    private static void doubtRefused() {
        LotOffice x = new LotOffice();
        Check.refused("DOCTOR -1", () -> x.doubt(-1, 0, 0));
        Check.refused("DOCTOR 8", () -> x.doubt(8, 0, 0));
        Check.refused("what -1", () -> x.doubt(0, 0, -1));
        Check.refused("what 3", () -> x.doubt(0, 0, 3));
    }
}
