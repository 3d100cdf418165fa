import java.util.ArrayList;
import java.util.List;
import java.util.NoSuchElementException;

/**
 * Each call that can be refused, for each cause that the document names: what it answers, and that an office in which
 * it was called answers all that is asked behind it like one in which it was not.
 */
public final class EdgeRefusedTest {
    private static final long THROWN = Long.MIN_VALUE;
    private static final int[] NUMBERS_BELOW_AND_FAR = {-1, -2, Check.LEAST, Check.GREATEST};

    private interface Office {
        LotOffice made();
    }

    private interface Call {
        long on(LotOffice x);
    }

    /** What an office answers, each answer with the call that was asked. */
    private static final class Answers {
        private final List<String> calls = new ArrayList<>();
        private final List<Long> all = new ArrayList<>();

        void add(String call, long answer) {
            calls.add(call);
            all.add(answer);
        }

        void add(String call, boolean answer) {
            add(call, answer ? 1 : 0);
        }
    }

    public static void main(String[] args) {
        Check.sentence("a call that is refused changes nothing");
        tapeRefused();
        nextRefused();
        manRefused();
        birthRefused();
        factRefused();
        examRefused();
        sameRefused();
        lawRefused();
        lotRefused();
        picksRefused();
        handsRefused();
        sendRefused();
        appealRefused();
        leavesRefused();
        Check.sentence("A call that throws changes nothing");
        thrown();
        Check.sentence("a call that asks of no such one changes nothing");
        noSuchOnes();
        Check.sentence("a call that asks changes nothing but what it tells to be the latest");
        asking();
        Check.close();
    }

    /** The call answers so, and behind it all is as in an office without it, whose tape is ended at so many bytes. */
    private static void refused(String call, Office office, Call refused, long due, int bytes) {
        LotOffice with = office.made();
        Check.due(call, refused.on(with), due);
        LotOffice without = office.made();
        without.end(bytes);
        alike(call, with, without);
    }

    /** One that leaves the tape as it is. */
    private static void refused(String call, Call refused, long due) {
        refused(call, EdgeRefusedTest::office, refused, due, 20);
    }

    /** One that takes the tape. */
    private static void taken(String call, String tape, Call refused, long due) {
        refused(call + " of '" + tape + "'", EdgeRefusedTest::office, x -> {
            Check.tape(x, tape);
            return refused.on(x);
        }, due, 0);
    }

    private static void alike(String call, LotOffice with, LotOffice without) {
        Answers got = ask(with);
        Answers want = ask(without);
        for (int i = 0; i < want.all.size(); i++) {
            Check.due("behind " + call + ": " + want.calls.get(i), got.all.get(i), want.all.get(i));
        }
    }

    /** First what the latest calls told, for what is asked behind it changes that. */
    private static Answers ask(LotOffice x) {
        Answers all = new Answers();
        all.add("why", x.why());
        all.add("fault", x.fault());
        for (int k = 0; k < 3; k++) {
            all.add("mendedAt(" + k + ")", x.mendedAt(k));
        }
        for (int week = 0; week < 12; week++) {
            all.add("gone(0, " + week + ")", x.gone(0, week));
            all.add("gone(1, " + week + ")", x.gone(1, week));
        }
        for (int what = 0; what < 10; what++) {
            all.add("count(" + what + ")", x.count(what));
        }
        int[] men = {0, 1, 2, 3, 4, x.count(1) - 1};
        int[] days = {0, x.count(0)};
        for (int t : days) {
            for (int m : men) {
                askOfAMan(all, x, m, t);
            }
            for (int l = 0; l < 2; l++) {
                askOfALot(all, x, l, t);
            }
        }
        return all;
    }

    private static void askOfAMan(Answers all, LotOffice x, int m, int t) {
        String of = "(" + m + " AS OF " + t + ")";
        all.add("who" + of, x.who(m, t));
        all.add("age" + of, x.age(m, 0, t));
        all.add("brothers" + of, x.brothers(m, t));
        for (int l = 0; l < 2; l++) {
            all.add("state in " + l + of, x.state(l, m, t));
            all.add("why in " + l + of, x.why());
            all.add("place in " + l + of, x.place(l, m, t));
            all.add("serves in " + l + of, x.serves(l, m, t));
        }
    }

    private static void askOfALot(Answers all, LotOffice x, int l, int t) {
        String of = "(" + l + " AS OF " + t + ")";
        all.add("quota of 0" + of, x.quota(l, 0, t));
        all.add("quota of 1" + of, x.quota(l, 1, t));
        all.add("called" + of, x.called(l, t));
        all.add("mended" + of, x.mended(l, 0, t, true));
        all.add("mendedAt" + of, x.mendedAt(0));
        all.add("mixed" + of, thrown(() -> x.mixed(l, 5, 0, 9, 2)));
        all.add("doubt" + of, thrown(() -> x.doubt(l, t, 1)));
        Check.tape(x, Check.like(12, 2));
        all.add("leaves" + of, x.leaves(l, t));
        all.add("gone" + of, x.gone(0, 11));
    }

    private static long thrown(Check.Call call) {
        try {
            return call.answer();
        } catch (NoSuchElementException e) {
            return THROWN;
        }
    }

    /** Six MEN, of whom 5 is a mere NAME and 6 not there, and something of all that can be told and asked. */
    private static LotOffice office() {
        LotOffice x = new LotOffice();
        for (int m = 0; m < 6; m++) {
            Check.man(x, "a", m % 2, 7, -22, 1 + m);
        }
        Check.man(x, "z", 1, 7);
        Check.law(x, "free if hides;class 3 if not sole;send not if trade = 9;appeal 5;", 0);
        x.fact(3, 4, 1, 0, 99);
        x.fact(1, 0, 9, 0, 99);
        x.exam(0, 0, 9);
        x.exam(1, 1, 3);
        x.lot(0, 3);
        x.lot(2, 2);
        Check.tape(x, Check.downFrom(52));
        x.weeks(1);
        Check.tape(x, Check.downFrom(26));
        x.letters(1);
        x.send(0, 0, 4);
        x.hands(0, 3, 2);
        x.next(2);
        x.same(2, 5);
        x.birth(0, -40, 0);
        x.appeal(0, 0);
        Check.tape(x, 0, 0, 0, 0, 1, 1, 1, 1, 1, 1, 2, 2);
        x.leaves(0, 2);
        x.mended(0, 0, 2, false);
        Check.law(x, "class 9;", 2);
        x.state(0, 1, 2);
        x.feed(1, 2, 3, 4, 5);
        return x;
    }

    private static void tapeRefused() {
        for (int n : NUMBERS_BELOW_AND_FAR) {
            refused("end(" + n + ")", x -> x.end(n) ? 1 : 0, 0);
        }
        refused("end(21) of 20", x -> x.end(21) ? 1 : 0, 0);
        Office full = () -> {
            LotOffice x = office();
            for (int i = 0; i < 16; i++) {
                x.feed(6, 7, 8, 9, 10);
            }
            return x;
        };
        refused("feed behind 340", full, x -> x.feed(0, 0, 0, 0, 0), -1, 340);
    }

    private static void nextRefused() {
        int[] none = {-1, 3638, 3639, 3640, Check.LEAST, Check.GREATEST};
        for (int n : none) {
            refused("next(" + n + ") on DAY 2", x -> x.next(n), -1);
        }
    }

    private static void manRefused() {
        String[] names = {"", "A", "a1", "abcdefghi", "a "};
        for (String name : names) {
            taken("man", name, x -> x.man(0, 0), -1);
        }
        int[] noParish = {-1, 8, Check.LEAST, Check.GREATEST};
        for (int parish : noParish) {
            taken("man(" + parish + ", 0)", "b", x -> x.man(parish, 0), -1);
        }
        int[] noFather = {-1, 60, Check.LEAST, Check.GREATEST};
        for (int father : noFather) {
            taken("man(0, " + father + ")", "b", x -> x.man(0, father), -1);
        }
        Office full = () -> {
            LotOffice x = office();
            x.end(0);
            for (int m = 7; m < 60; m++) {
                x.feed('b' << 24, 0, 0, 0, 0);
                x.end(1);
                x.man(0, 7);
            }
            return x;
        };
        Check.due("the 60th", full.made().count(1), 60);
        refused("a 61st man", full, x -> Check.man(x, "b", 0, 7), -1, 0);
    }

    private static void birthRefused() {
        int[][] wrong = {{-1, -20, 0}, {7, -20, 0}, {60, -20, 0}, {Check.LEAST, -20, 0}, {Check.GREATEST, -20, 0},
            {1, -61, 0}, {1, 10, 0}, {1, Check.LEAST, 0}, {1, Check.GREATEST, 0},
            {1, -40, -1}, {1, -40, 52}, {1, -40, Check.LEAST}, {1, -40, Check.GREATEST}};
        for (int[] n : wrong) {
            refused("birth(" + n[0] + ", " + n[1] + ", " + n[2] + ")", x -> x.birth(n[0], n[1], n[2]) ? 1 : 0, 0);
        }
        Office full = () -> {
            LotOffice x = office();
            for (int i = 7; i < 100; i++) {
                x.birth(6, -22, 9);
            }
            return x;
        };
        refused("a 101st BIRTH", full, x -> x.birth(1, -40, 0) ? 1 : 0, 0, 20);
    }

    private static void factRefused() {
        int[][] wrong = {{-1, 4, 1, 0, 9}, {7, 4, 1, 0, 9}, {60, 4, 1, 0, 9}, {Check.LEAST, 4, 1, 0, 9},
            {1, -1, 1, 0, 9}, {1, 6, 1, 0, 9}, {1, Check.GREATEST, 1, 0, 9}, {1, Check.LEAST, 1, 0, 9},
            {1, 0, 10, 0, 9}, {1, 1, 10, 0, 9}, {1, 2, 2, 0, 9}, {1, 3, 2, 0, 9}, {1, 4, 2, 0, 9}, {1, 5, 251, 0, 9},
            {1, 0, -1, 0, 9}, {1, 4, -1, 0, 9}, {1, 5, -1, 0, 9}, {1, 4, Check.GREATEST, 0, 9}, {1, 4, Check.LEAST, 0, 9},
            {1, 4, 1, -1, 9}, {1, 4, 1, 0, 3640}, {1, 4, 1, 3, 2}, {1, 4, 1, Check.LEAST, 9}, {1, 4, 1, 0, Check.GREATEST}};
        for (int[] n : wrong) {
            refused("fact(" + n[0] + ", " + n[1] + ", " + n[2] + ", " + n[3] + ", " + n[4] + ")",
                x -> x.fact(n[0], n[1], n[2], n[3], n[4]) ? 1 : 0, 0);
        }
        Office full = () -> {
            LotOffice x = new LotOffice();
            Check.men(x, 3, 0);
            x.lot(0, 1);
            for (int i = 0; i < 240; i++) {
                x.fact(i % 2, 4, 0, 0, 99);
            }
            Check.law(x, "free if hides;", 0);
            return x;
        };
        refused("a 241st FACT", full, x -> x.fact(0, 4, 1, 0, 99) ? 1 : 0, 0, 0);
    }

    private static void examRefused() {
        int[][] wrong = {{-1, 0, 9}, {7, 0, 9}, {60, 0, 9}, {Check.LEAST, 0, 9}, {Check.GREATEST, 0, 9},
            {1, -1, 9}, {1, 8, 9}, {1, Check.LEAST, 9}, {1, Check.GREATEST, 9},
            {1, 0, -1}, {1, 0, 10}, {1, 0, Check.LEAST}, {1, 0, Check.GREATEST}};
        for (int[] n : wrong) {
            refused("exam(" + n[0] + ", " + n[1] + ", " + n[2] + ")", x -> x.exam(n[0], n[1], n[2]) ? 1 : 0, 0);
        }
        Office full = () -> {
            LotOffice x = office();
            for (int i = 2; i < 60; i++) {
                x.exam(2, 1, 5);
            }
            return x;
        };
        refused("a 61st EXAM", full, x -> x.exam(1, 0, 9) ? 1 : 0, 0, 20);
    }

    private static void sameRefused() {
        int[][] wrong = {{-1, 0}, {0, -1}, {7, 0}, {0, 7}, {0, 60}, {Check.LEAST, 0}, {0, Check.GREATEST}, {0, 0}, {6, 6}, {-1, -1}, {7, 7}};
        for (int[] n : wrong) {
            refused("same(" + n[0] + ", " + n[1] + ")", x -> x.same(n[0], n[1]) ? 1 : 0, 0);
        }
        Office full = () -> {
            LotOffice x = new LotOffice();
            Check.men(x, 44, 0);
            x.lot(0, 3);
            for (int m = 3; m < 43; m++) {
                x.same(m, m + 1);
            }
            return x;
        };
        refused("a 41st SAME", full, x -> x.same(0, 1) ? 1 : 0, 0, 0);
    }

    private static void lawRefused() {
        int[] none = {-1, 1, 3640, Check.LEAST, Check.GREATEST};
        String[] texts = {"free;", "", "fre;", "class 9;"};
        for (int from : none) {
            for (String text : texts) {
                taken("law(" + from + ")", text, x -> x.law(from), -1000);
            }
        }
        // the FAULT of the office's latest law is of kind 2, too
        String[] faulty = {"free;class 9;", "age 26 to 25;", "later 0;", "appeal 1000;"};
        int[] places = {11, 10, 6, 7};
        for (int i = 0; i < faulty.length; i++) {
            taken("law", faulty[i], x -> x.law(2), -1 - places[i]);
        }
        Office full = () -> {
            LotOffice x = office();
            x.end(0);
            for (int i = 1; i < 8; i++) {
                x.law(99);
            }
            return x;
        };
        Check.due("the eighth", full.made().count(3), 8);
        refused("a ninth law", full, x -> Check.law(x, "age 0 to 1;", 2), -1000, 0);
    }

    private static void lotRefused() {
        int[][] wrong = {{1, 1}, {-1, 1}, {3640, 1}, {Check.LEAST, 1}, {Check.GREATEST, 1},
            {2, -1}, {2, 61}, {2, Check.LEAST}, {2, Check.GREATEST}};
        for (int[] n : wrong) {
            refused("lot(" + n[0] + ", " + n[1] + ")", x -> x.lot(n[0], n[1]), -1);
        }
        Office full = () -> {
            LotOffice x = office();
            x.lot(2, 1);
            x.lot(2, 1);
            return x;
        };
        refused("a fifth LOT", full, x -> x.lot(3, 9), -1, 20);
    }

    private static String picks(int[] picks) {
        StringBuilder text = new StringBuilder();
        for (int pick : picks) {
            text.append((char) pick);
        }
        return text.toString();
    }

    private static void picksRefused() {
        int[] noLot = {-1, 2, 4, Check.LEAST, Check.GREATEST};
        for (int l : noLot) {
            taken("weeks(" + l + ")", picks(Check.downFrom(52)), x -> x.weeks(l) ? 1 : 0, 0);
            taken("letters(" + l + ")", picks(Check.downFrom(26)), x -> x.letters(l) ? 1 : 0, 0);
        }
        taken("weeks told again", picks(Check.upTo(52)), x -> x.weeks(1) ? 1 : 0, 0);
        taken("letters told again", picks(Check.upTo(26)), x -> x.letters(1) ? 1 : 0, 0);
        int[] wrong = Check.downFrom(52);
        wrong[51] = 51;
        String[] noWeeks = {"", picks(Check.downFrom(51)), picks(Check.downFrom(53)), picks(Check.downFrom(26)), picks(wrong)};
        for (String tape : noWeeks) {
            taken("weeks", tape, x -> x.weeks(0) ? 1 : 0, 0);
        }
        wrong = Check.downFrom(26);
        wrong[25] = 25;
        String[] noLetters = {"", picks(Check.downFrom(25)), picks(Check.downFrom(27)), picks(Check.downFrom(52)), picks(wrong)};
        for (String tape : noLetters) {
            taken("letters", tape, x -> x.letters(0) ? 1 : 0, 0);
        }
    }

    private static void handsRefused() {
        int[][] wrong = {{-1, 0, 9}, {8, 0, 9}, {Check.LEAST, 0, 9}, {Check.GREATEST, 0, 9},
            {0, -1, 9}, {0, 12, 9}, {0, Check.LEAST, 9}, {0, Check.GREATEST, 9},
            {0, 11, -1}, {0, 11, 61}, {0, 11, Check.LEAST}, {0, 11, Check.GREATEST}};
        for (int[] n : wrong) {
            refused("hands(" + n[0] + ", " + n[1] + ", " + n[2] + ")", x -> x.hands(n[0], n[1], n[2]) ? 1 : 0, 0);
        }
    }

    private static void sendRefused() {
        Office office = EdgeRefusedTest::office;
        LotOffice x = office.made();
        int[] state = {1, 5, 5, 2, 5, 0, 0};
        for (int m = 0; m < 7; m++) {
            Check.due("STATE of " + m + " in LOT 0", x.state(0, m, 2), state[m]);
        }
        int[][] wrong = {{-1, 2, 0}, {2, 2, 0}, {Check.LEAST, 2, 0}, {Check.GREATEST, 2, 0}, {0, -1, 0}, {0, 7, 0}, {0, 2, -1}, {0, 2, 7},
            {0, Check.GREATEST, 0}, {0, 2, Check.LEAST}, {0, 2, 2}, {0, 0, 3}, {0, 0, 0}, {0, 2, 0}, {0, 2, 1}, {0, 2, 3},
            {0, 2, 4}, {0, 2, 5}, {0, 2, 6}, {0, 1, 0}, {0, 3, 0}, {0, 5, 0}, {0, 6, 0}};
        for (int[] n : wrong) {
            refused("send(" + n[0] + ", " + n[1] + ", " + n[2] + ")", y -> y.send(n[0], n[1], n[2]) ? 1 : 0, 0);
        }
        Office early = () -> {
            LotOffice y = office();
            y.lot(3, 1);
            return y;
        };
        refused("ahead of the LOT's DAY", early, y -> y.send(2, 4, 0) ? 1 : 0, 0, 20);
        Office full = () -> {
            LotOffice y = new LotOffice();
            Check.men(y, 17, 0);
            for (int l = 0; l < 4; l++) {
                y.lot(0, 1);
            }
            for (int i = 0; i < 60; i++) {
                y.send(3 - i / 16, i % 16, i % 16 + 1);
            }
            return y;
        };
        Check.due("the 60th", full.made().count(6), 60);
        refused("a 61st SENT", full, y -> y.send(0, 12, 13) ? 1 : 0, 0, 0);
    }

    private static void appealRefused() {
        int[][] wrong = {{-1, 0}, {2, 0}, {Check.LEAST, 0}, {Check.GREATEST, 0}, {0, -1}, {0, 7}, {0, 60}, {0, Check.LEAST}, {0, Check.GREATEST}};
        for (int[] n : wrong) {
            refused("appeal(" + n[0] + ", " + n[1] + ")", x -> x.appeal(n[0], n[1]), -1);
        }
        Office early = () -> {
            LotOffice x = office();
            x.lot(3, 1);
            return x;
        };
        refused("ahead of the LOT's DAY", early, x -> x.appeal(2, 0), -1, 20);
        Office late = () -> {
            LotOffice x = office();
            x.next(4);
            return x;
        };
        refused("too late", late, x -> x.appeal(0, 0), -1, 20);
        Office full = () -> {
            LotOffice x = office();
            for (int i = 1; i < 60; i++) {
                x.appeal(0, i % 2);
            }
            return x;
        };
        Check.due("the 60th", full.made().count(7), 60);
        refused("a 61st APPEAL", full, x -> x.appeal(0, 0), -1, 20);
    }

    private static void leavesRefused() {
        int[] noLot = {-1, 2, 4, Check.LEAST, Check.GREATEST};
        for (int l : noLot) {
            taken("leaves(" + l + ")", picks(Check.like(12, 1)), x -> x.leaves(l, 2), -1);
        }
        int[] less = Check.like(12, 1);
        less[11] = 0;
        String[] wrong = {"", picks(Check.like(11, 0)), picks(Check.like(13, 0)), picks(Check.like(340, 0)), picks(less)};
        for (String tape : wrong) {
            taken("leaves", tape, x -> x.leaves(0, 2), -1);
        }
    }

    private static void thrown() {
        int[][] mixed = {{-1, 1, 0, 1, 0}, {2, 1, 0, 1, 0}, {0, -1, 0, 1, 0}, {0, 53, 0, 1, 0}, {0, 1, -1, 1, 0}, {0, 1, 0, 52, 0},
            {0, 1, 2, 1, 0}, {0, 1, 0, 1, -1}, {0, 1, 0, 1, 3}, {Check.LEAST, 1, 0, 1, 0}, {0, Check.GREATEST, 0, 1, 0}};
        for (int[] n : mixed) {
            refused("mixed(" + n[0] + ", " + n[1] + ", " + n[2] + ", " + n[3] + ", " + n[4] + ")",
                x -> thrown(() -> x.mixed(n[0], n[1], n[2], n[3], n[4])), THROWN);
        }
        int[][] doubt = {{-1, 0}, {8, 0}, {Check.LEAST, 0}, {Check.GREATEST, 0}, {0, -1}, {0, 3}, {0, Check.LEAST}, {0, Check.GREATEST}};
        for (int[] n : doubt) {
            refused("doubt(" + n[0] + ", 2, " + n[1] + ")", x -> thrown(() -> x.doubt(n[0], 2, n[1])), THROWN);
        }
    }

    private static void noSuchOnes() {
        int[] none = {-1, 7, 60, Check.LEAST, Check.GREATEST};
        for (int n : none) {
            refused("who(" + n + ")", x -> x.who(n, 2), -1);
            refused("age of " + n, x -> x.age(n, 0, 2), -1);
            refused("brothers(" + n + ")", x -> x.brothers(n, 2), -1);
            refused("state of " + n, x -> x.state(0, n, 2), -1);
            refused("state in LOT " + n, x -> x.state(n, 0, 2), -1);
            refused("quota in LOT " + n, x -> x.quota(n, 0, 2), -1);
            refused("place of " + n, x -> x.place(0, n, 2), -1);
            refused("place in LOT " + n, x -> x.place(n, 0, 2), -1);
            refused("called(" + n + ")", x -> x.called(n, 2), -1);
            refused("serves of " + n, x -> x.serves(0, n, 2), -1);
            refused("serves in LOT " + n, x -> x.serves(n, 0, 2), -1);
            refused("mended in LOT " + n, x -> x.mended(n, 0, 2, true), -1);
            refused("mendedAt(" + n + ")", x -> x.mendedAt(n), -1);
            refused("count of no such what", x -> x.count(n == 7 ? 10 : n), -1);
            refused("gone of no such PARISH", x -> x.gone(n == 7 ? 8 : n, 0), -1);
            refused("gone by no such week", x -> x.gone(0, n == 7 ? 12 : n), -1);
            refused("quota of no such PARISH", x -> x.quota(0, n == 7 ? 8 : n, 2), -1);
            refused("age on no such DAY", x -> x.age(0, n == 7 || n == 60 ? 3640 : n, 2), -1);
        }
    }

    private static void asking() {
        int[] days = {Check.LEAST, 1, Check.GREATEST};
        LotOffice x = office();
        for (int t : days) {
            for (int m = 0; m < 7; m++) {
                x.who(m, t);
                x.age(m, 3639, t);
                x.brothers(m, t);
                x.place(1, m, t);
                x.serves(0, m, t);
            }
            x.quota(1, 0, t);
            x.called(1, t);
            x.doubt(0, t, 0);
            x.mixed(0, 52, 0, 51, 0);
            x.mendedAt(0);
            x.gone(0, 0);
            x.count(0);
            x.fault();
            x.why();
        }
        alike("all that asks alone", x, office());
        LotOffice y = office();
        y.state(1, 3, 2);
        Check.due("the latest state() is told by another LINE", y.why(), 0);
        y.state(0, 1, 2);
        alike("another state()", y, office());
        LotOffice z = office();
        Check.due("who is told by the latest mended()", z.mendedAt(0), 4);
        z.mended(0, 0, 2, true);
        Check.due("another one tells another man", z.mendedAt(0), 0);
        z.mended(0, 0, 2, false);
        alike("another mended()", z, office());
    }
}
