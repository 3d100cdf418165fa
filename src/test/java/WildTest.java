import java.util.NoSuchElementException;
import java.util.Random;

/** Calls with whatever numbers, the greatest and the least too: nothing is thrown but what the document names. */
public final class WildTest {
    private static final int[] EDGES = {Integer.MIN_VALUE, Integer.MIN_VALUE + 1, -1000, -61, -60, -2, -1, 0, 1, 2, 3, 4,
        5, 7, 8, 9, 11, 12, 25, 26, 51, 52, 53, 59, 60, 61, 250, 251, 340, 341, 3639, 3640, Integer.MAX_VALUE - 1, Integer.MAX_VALUE};
    private static final String PIECES = "age;to;free;if;later;class;send;not;appeal;or;and;sole;grade;serving;(;);<;=;>;1;30;;x";

    private final Random random;
    private final LotOffice x = new LotOffice();

    private WildTest(long seed) {
        random = new Random(seed);
    }

    public static void main(String[] args) {
        for (long seed = 0; seed < 300; seed++) {
            String thrown = new WildTest(seed).run();
            Check.due("seed " + seed + " " + thrown, thrown.isEmpty(), true);
        }
        aFullOffice();
        aCallThatThrowsChangesNothing();
        Check.close();
    }

    private String run() {
        try {
            for (int i = 0; i < 512; i++) {
                call(random.nextInt(33));
            }
        } catch (RuntimeException | Error e) {
            return e + " at " + e.getStackTrace()[0];
        }
        return "";
    }

    private int n() {
        int kind = random.nextInt(6);
        return kind == 0 ? random.nextInt() : kind < 3 ? EDGES[random.nextInt(EDGES.length)] : random.nextInt(6);
    }

    private int bytes() {
        int kind = random.nextInt(3);
        return kind == 0 ? random.nextInt() : kind == 1 ? 'a' * 0x01010101 + random.nextInt(20) : n();
    }

    private void pieces() {
        String[] all = PIECES.split(";");
        StringBuilder text = new StringBuilder();
        while (text.length() < 60 + random.nextInt(250)) {
            text.append(all[random.nextInt(all.length)]).append(random.nextInt(3) == 0 ? ";" : " ");
        }
        text.setLength(Math.min(text.length(), 340));
        Check.tape(x, text.toString());
    }

    private void picks() {
        Check.tape(x, random.nextBoolean() ? Check.upTo(52) : random.nextBoolean() ? Check.downFrom(26) : new int[12]);
    }

    private void call(int which) {
        switch (which) {
            case 0: x.feed(bytes(), bytes(), bytes(), bytes(), bytes()); break;
            case 1: x.end(n()); break;
            case 2: x.next(random.nextInt(4) == 0 ? n() : random.nextInt(3)); break;
            case 3: Check.man(x, "abc", random.nextInt(8), random.nextInt(4)); break;
            case 4: x.man(n(), n()); break;
            case 5: x.birth(n(), n(), n()); break;
            case 6: x.birth(random.nextInt(6), -20 - random.nextInt(5), random.nextInt(52)); break;
            case 7: x.fact(n(), n(), n(), n(), n()); break;
            case 8: x.exam(n(), n(), n()); break;
            case 9: x.same(n(), n()); break;
            case 10: x.law(n()); break;
            case 11: pieces(); x.law(x.count(0)); break;
            case 12: Check.law(x, "free if serving > 0;class 1 if not sole;send if age < 99;", x.count(0)); break;
            case 13: x.fault(); x.why(); break;
            case 14: x.lot(n(), n()); break;
            case 15: picks(); x.weeks(n()); break;
            case 16: picks(); x.letters(n()); break;
            case 17: x.hands(n(), n(), n()); break;
            case 18: x.who(n(), n()); break;
            case 19: x.age(n(), n(), n()); break;
            case 20: x.brothers(n(), n()); break;
            case 21: x.state(n(), n(), n()); break;
            case 22: x.quota(n(), n(), n()); break;
            case 23: x.place(n(), n(), n()); break;
            case 24: x.called(n(), n()); break;
            case 25: x.send(n(), n(), n()); break;
            case 26: x.serves(n(), n(), n()); break;
            case 27: x.mended(n(), n(), n(), random.nextBoolean()); x.mendedAt(n()); break;
            case 28: x.appeal(n(), n()); break;
            case 29: mixed(); break;
            case 30: doubt(); break;
            case 31: picks(); x.leaves(n(), n()); x.gone(n(), n()); break;
            default: x.count(n()); break;
        }
    }

    private void mixed() {
        try {
            x.mixed(n(), n(), n(), n(), random.nextInt(3));
        } catch (NoSuchElementException e) {
            x.count(0);
        }
    }

    private void doubt() {
        try {
            x.doubt(n(), n(), n());
        } catch (NoSuchElementException e) {
            x.count(0);
        }
    }

    /** All that can be told is told, as often as it can be; the last man of all is asked for. */
    private static void aFullOffice() {
        LotOffice x = new LotOffice();
        String cond = " if serving > 70 or not(height < 300 and age < 99)";
        String law = "age 0 to 99;free" + cond + ";later 3000" + cond + ";class 8" + cond + ";send not" + cond + ";appeal 999;";
        for (int i = 0; i < 8; i++) {
            Check.due("law " + i, Check.law(x, law, i), 6);
        }
        for (int m = 0; m < 60; m++) {
            Check.man(x, "zzzzzzzz", 7 - m % 8, 59, -60 + m % 70, 51);
            x.exam(m, 7, 9);
            for (int kind = 2; kind < 6; kind++) {
                x.fact(m, kind, 1, 0, 3639);
            }
        }
        for (int i = 0; i < 40; i++) {
            x.birth(59, i - 31, 51);
        }
        for (int l = 0; l < 4; l++) {
            x.lot(l * 10, 15);
        }
        x.next(30);
        for (int l = 0; l < 4; l++) {
            for (int a = 0; a < 60; a++) {
                for (int b = 0; b < 60 && x.serves(l, a, 30) == a; b++) {
                    x.send(l, a, b);
                }
            }
        }
        for (int i = 0; i < 40; i++) {
            x.same(i, i + 1);
        }
        for (int i = 0; i < 60; i++) {
            x.appeal(3, i);
        }
        int[] due = {30, 60, 4, 8, 240, 60, 60, 60, x.count(8), 0};
        for (int what = 0; what < 10; what++) {
            Check.due("count(" + what + ") of a full office", x.count(what), due[what]);
        }
        askAFullOffice(x);
    }

    private static void askAFullOffice(LotOffice x) {
        Check.due("who", x.who(40, 30), 0);
        Check.due("brothers", x.brothers(59, 30), 19);
        Check.due("age", x.age(59, 3639, 30), 1);
        int all = 0;
        for (int m = 0; m < 60; m++) {
            all += x.state(3, m, 29) == 5 ? 1 : 0;
        }
        Check.due("CALLED", x.called(3, 29), all);
        Check.due("as many as are WANTED", all, 15);
        Check.due("AS OF 30", x.called(3, 30), 15);
        Check.due("none left", x.mended(3, 29, -1, true), 15);
        Check.due("the last of them", x.mendedAt(14) >= 14, true);
        Check.due("no more", x.mendedAt(15), -1);
        Check.due("place", x.place(3, 59, 30) >= 0, true);
        for (int p = 0; p < 8; p++) {
            x.hands(p, 11, 60);
        }
        Check.tape(x, new int[12]);
        Check.due("leaves", x.leaves(3, 30), 1);
        Check.due("doubt", x.doubt(7, 30, 2), 60);
    }

    private static void aCallThatThrowsChangesNothing() {
        LotOffice x = new LotOffice();
        int m = Check.man(x, "a", 0, 0, -20, 0);
        x.lot(0, 1);
        x.state(0, m, 0);
        x.mended(0, -1, 0, false);
        Check.law(x, "fre;", 0);
        x.feed(1, 2, 3, 4, 5);
        Check.refused("mixed", () -> x.mixed(0, 60, 0, 0, 0));
        Check.refused("doubt", () -> x.doubt(0, 0, 9));
        int[] due = {0, 1, 1, 0, 0, 0, 0, 0, 0, 20};
        for (int what = 0; what < 10; what++) {
            Check.due("count(" + what + ")", x.count(what), due[what]);
        }
        Check.due("fault", x.fault(), 1);
        Check.due("mendedAt", x.mendedAt(0), 0);
        Check.due("why", x.why(), -1);
    }
}
