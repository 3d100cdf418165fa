import java.util.NoSuchElementException;
import java.util.Random;

/** Runs of calls drawn by seeds, each answer held against the model's. */
public final class ModelTest {
    private static final String[] ASKS =
        {"age", "trade", "children", "height", "grade", "brothers", "serving", "parish"};
    private static final String[] FLAGS = {"married", "school", "hides", "sole"};
    private static final String[] PIECES = {"age", "to", "free", "if", "later", "class", "send", "not", "appeal", "or",
        "and", "married", "sole", "grade", "<", "=", ">", "(", ")", ";", "5", "0", "100", "9999", "12345", "x", "?"};

    private final Random random;
    private final LotOffice x = new LotOffice();
    private final Model y = new Model();
    private final String run;
    private int calls;

    private ModelTest(long seed) {
        random = new Random(seed);
        run = "seed " + seed + ", call ";
    }

    public static void main(String[] args) {
        int runs = args.length > 0 ? Integer.parseInt(args[0]) : 250;
        long first = args.length > 1 ? Long.parseLong(args[1]) : 1;
        for (long seed = first; seed < first + runs; seed++) {
            new ModelTest(seed).run();
        }
        Check.close();
    }

    private void due(String call, long got, long want) {
        calls++;
        Check.due(run + calls + ": " + call, got, want);
    }

    private void due(String call, boolean got, boolean want) {
        due(call, got ? 1 : 0, want ? 1 : 0);
    }

    private int upTo(int n) {
        return random.nextInt(n);
    }

    /** A number from a bit below least to a bit above most, mostly between them. */
    private int near(int least, int most) {
        return upTo(30) == 0 ? least - 1 - upTo(2) : upTo(30) == 0 ? most + 1 + upTo(2) : least + upTo(most - least + 1);
    }

    private int man() {
        return near(0, Math.max(0, y.men.size() - 1));
    }

    private int lotNumber() {
        return near(0, Math.max(0, y.lots.size() - 1));
    }

    private int asOf() {
        int kind = upTo(6);
        return kind < 3 ? y.today : kind < 5 ? upTo(y.today + 2) - 1 : upTo(4000);
    }

    private void run() {
        int men = 2 + upTo(upTo(4) == 0 ? 30 : 10);
        for (int i = 0; i < men; i++) {
            newMan();
            if (upTo(8) > 0 && y.men.size() > 0) {
                newBirth(y.men.size() - 1);
            }
        }
        while (calls < 490) {
            y.forget();
            if (upTo(3) == 0) {
                tell();
            } else {
                ask();
            }
        }
    }

    private void tell() {
        switch (upTo(14)) {
            case 0: newMan(); break;
            case 1: newBirth(man()); break;
            case 2:
            case 3: newFact(); break;
            case 4: newExam(); break;
            case 5: if (upTo(3) == 0) { int a = man(); int b = man(); due("same", x.same(a, b), y.same(a, b)); } break;
            case 6: newLaw(); break;
            case 7: newLot(); break;
            case 8: newPicks(); break;
            case 9: { int p = near(0, upTo(2) == 0 ? 7 : 2); int w = near(0, 11); int n = near(0, upTo(4) == 0 ? 60 : 4);
                due("hands", x.hands(p, w, n), y.hands(p, w, n)); break; }
            case 10:
            case 11: newSend(); break;
            case 12: newDay(); break;
            default: { int l = lotNumber(); int m = man(); askAppeal(l, m); break; }
        }
    }

    private void tape(String text) {
        due("end(0)", x.end(0), y.end(0));
        int[] n = new int[5];
        for (int i = 0; i < text.length(); i += 20) {
            for (int k = 0; k < 5; k++) {
                n[k] = 0;
                for (int j = 0; j < 4; j++) {
                    int at = i + 4 * k + j;
                    n[k] = n[k] << 8 | (at < text.length() ? text.charAt(at) & 255 : upTo(256));
                }
            }
            due("feed", x.feed(n[0], n[1], n[2], n[3], n[4]), y.feed(n));
        }
        due("end", x.end(text.length()), y.end(text.length()));
    }

    private void newMan() {
        StringBuilder name = new StringBuilder();
        int length = near(1, 8);
        for (int i = 0; i < length; i++) {
            name.append((char) (upTo(100) == 0 ? upTo(256) : 'a' + upTo(26)));
        }
        tape(name.toString());
        int p = near(0, upTo(2) == 0 ? 7 : 2);
        int f = near(0, upTo(4) == 0 ? 59 : 3);
        due("man", x.man(p, f), y.man(p, f));
    }

    private void newBirth(int m) {
        int year = upTo(20) == 0 ? near(-60, 9) : y.today / 364 - 19 - upTo(8);
        int week = upTo(2) == 0 ? upTo(4) : near(0, 51);
        due("birth", x.birth(m, year, week), y.birth(m, year, week));
    }

    private void newFact() {
        int m = man();
        int kind = near(0, 5);
        int value = near(0, kind < 2 ? 9 : kind < 5 ? 1 : 250);
        int from = near(0, upTo(3) == 0 ? 3639 : 100);
        int to = upTo(3) == 0 ? 3639 : from + upTo(300) - 5;
        due("fact", x.fact(m, kind, value, from, to), y.fact(m, kind, value, from, to));
    }

    private void newExam() {
        int m = man();
        int doctor = near(0, upTo(4) == 0 ? 7 : 2);
        int grade = near(0, 9);
        due("exam", x.exam(m, doctor, grade), y.exam(m, doctor, grade));
    }

    private void newLot() {
        int day = upTo(4) > 0 ? y.today + upTo(upTo(3) == 0 ? 20 : 2) : near(0, 200);
        int wanted = upTo(5) == 0 ? near(0, 60) : upTo(12);
        due("lot", x.lot(day, wanted), y.lot(day, wanted));
    }

    private void newDay() {
        int n = upTo(60) == 0 ? near(0, 3639) / 8 : near(0, upTo(3) == 0 ? 12 : 2);
        due("next", x.next(n), y.next(n));
    }

    private void newPicks() {
        int n = upTo(2) == 0 ? 52 : 26;
        int[] picks = Check.upTo(n);
        for (int i = 0; i < n; i++) {
            int k = upTo(n);
            int pick = picks[i];
            picks[i] = picks[k];
            picks[k] = pick;
        }
        if (upTo(4) == 0) {
            picks[upTo(n)] = upTo(n + 2);
        }
        StringBuilder text = new StringBuilder();
        for (int pick : picks) {
            text.append((char) pick);
        }
        tape(upTo(10) == 0 ? text.substring(1) : text.toString());
        int l = lotNumber();
        boolean forWeeks = (n == 52) != (upTo(10) == 0);
        due("picks", forWeeks ? x.weeks(l) : x.letters(l), forWeeks ? y.weeks(l) : y.letters(l));
    }

    /** Mostly of one who SERVES now, by one who may be SENT. */
    private void newSend() {
        int l = lotNumber();
        int a = man();
        int b = man();
        if (upTo(5) > 0 && l >= 0 && l < y.lots.size()) {
            for (int n = 0; n < 30 && y.serves(l, a, y.today) < 0; n++) {
                a = man();
            }
            a = upTo(4) > 0 && y.serves(l, a, y.today) >= 0 ? y.serves(l, a, y.today) : a;
            for (int n = 0; n < 30 && (state(l, b) != 1 && state(l, b) != 4); n++) {
                b = man();
            }
        }
        due("send", x.send(l, a, b), y.send(l, a, b));
    }

    private int state(int l, int m) {
        int why = y.why;
        int state = y.state(l, m, y.today);
        y.why = why;
        return state;
    }

    /** Mostly of one who has gone for NOTHING, if there is one. */
    private void askAppeal(int l, int m) {
        int who = m;
        if (l >= 0 && l < y.lots.size() && y.mended(l, y.lots.get(l).day, y.today, true) > 0 && upTo(4) > 0) {
            who = y.mendedAt(0);
        }
        due("mended", x.mended(l, 0, 0, true), y.mended(l, 0, 0, true));
        due("appeal", x.appeal(l, who), y.appeal(l, who));
    }

    private void newLaw() {
        StringBuilder text = new StringBuilder();
        int lines = upTo(20) == 0 ? 22 : 1 + upTo(6);
        for (int i = 0; i < lines && text.length() < 280; i++) {
            text.append(line());
        }
        if (upTo(4) == 0) {
            spoil(text);
        }
        if (upTo(30) == 0) {
            while (text.length() < 295 + upTo(12)) {
                text.append(' ');
            }
            text.append(upTo(2) == 0 ? "free;" : PIECES[upTo(PIECES.length)]);
        }
        text.setLength(Math.min(340, text.length()));
        tape(text.toString());
        int from = upTo(8) == 0 ? near(0, 3639) : y.today + upTo(10) - 1;
        due("law '" + text + "'", x.law(from), y.law(from));
        due("fault", x.fault(), y.fault);
    }

    private String line() {
        switch (upTo(7)) {
            case 0: { int from = near(0, 30); return "age " + from + " to " + (from + upTo(40) - 2) + ";"; }
            case 1: return "free" + rest();
            case 2: return "later " + near(1, 3000) + rest();
            case 3: return "send" + (upTo(2) == 0 ? " not" : "") + rest();
            case 4: return upTo(3) == 0 ? "appeal " + near(0, 60) + ";" : "class 5" + rest();
            default: return "class " + near(0, 8) + rest();
        }
    }

    private String rest() {
        return upTo(6) == 0 ? ";" : " if " + cond(upTo(20) == 0 ? 13 : upTo(4)) + ";";
    }

    private String cond(int depth) {
        StringBuilder text = new StringBuilder(one(depth));
        while (upTo(3) == 0) {
            text.append(upTo(2) == 0 ? " and " : " or ").append(one(depth));
        }
        return text.toString();
    }

    private String one(int depth) {
        if (depth > 0 && upTo(depth > 4 ? 1 : 2) == 0) {
            return upTo(2) == 0 ? "not " + one(depth - 1) : "(" + cond(depth - 1) + ")";
        }
        if (upTo(3) == 0) {
            return FLAGS[upTo(FLAGS.length)];
        }
        String asks = ASKS[upTo(ASKS.length)];
        int number = asks.equals("age") ? 17 + upTo(10) : asks.equals("height") ? upTo(250) : upTo(asks.equals("grade") ? 9 : 4);
        return asks + "<=>".charAt(upTo(3)) + number;
    }

    private void spoil(StringBuilder text) {
        int at = upTo(text.length() + 1);
        switch (upTo(4)) {
            case 0: text.insert(at, PIECES[upTo(PIECES.length)]); break;
            case 1: text.insert(at, (char) upTo(256)); break;
            case 2: text.setLength(at); break;
            default: text.delete(at, Math.min(text.length(), at + 1 + upTo(4))); break;
        }
    }

    private void ask() {
        int l = lotNumber();
        int m = man();
        int t = asOf();
        switch (upTo(16)) {
            case 0: due("who", x.who(m, t), y.who(m, t)); break;
            case 1: { int day = near(0, 3639); due("age", x.age(m, day, t), y.age(m, day, t)); break; }
            case 2: due("brothers", x.brothers(m, t), y.brothers(m, t)); break;
            case 3:
            case 4:
            case 5: due("state(" + l + "," + m + "," + t + ")", x.state(l, m, t), y.state(l, m, t));
                due("why", x.why(), y.why); break;
            case 6: { int p = near(0, 7); due("quota", x.quota(l, p, t), y.quota(l, p, t)); break; }
            case 7: due("place", x.place(l, m, t), y.place(l, m, t)); break;
            case 8: due("called", x.called(l, t), y.called(l, t)); break;
            case 9: due("serves", x.serves(l, m, t), y.serves(l, m, t)); break;
            case 10: askMended(l); break;
            case 11: askMixed(l); break;
            case 12: { int what = near(0, 2); int d = near(0, 2); due("doubt", doubt(d, t, what), y.doubt(d, t, what)); break; }
            case 13: askLeaves(l, t); break;
            case 14: { int p = near(0, 7); int w = near(0, 11); due("gone", x.gone(p, w), y.gone(p, w)); break; }
            default: { int what = near(0, 9); due("count", x.count(what), y.count(what)); break; }
        }
    }

    private void askMended(int l) {
        int s = asOf();
        int t = asOf();
        boolean nothing = upTo(2) == 0;
        due("mended", x.mended(l, s, t, nothing), y.mended(l, s, t, nothing));
        for (int k = -1; k < 3; k++) {
            due("mendedAt(" + k + ")", x.mendedAt(k), y.mendedAt(k));
        }
    }

    private void askMixed(int l) {
        int k = near(0, 52);
        int from = near(0, 51);
        int to = from + upTo(20) - 1;
        for (int what = 0; what < 3; what++) {
            due("mixed", mixed(l, k, from, to, what), y.mixed(l, k, from, to, what));
        }
    }

    private long mixed(int l, int k, int from, int to, int what) {
        try {
            return x.mixed(l, k, from, to, what);
        } catch (NoSuchElementException e) {
            return Long.MIN_VALUE;
        }
    }

    private long doubt(int doctor, int t, int what) {
        try {
            return x.doubt(doctor, t, what);
        } catch (NoSuchElementException e) {
            return Long.MIN_VALUE;
        }
    }

    private void askLeaves(int l, int t) {
        StringBuilder told = new StringBuilder();
        int n = 0;
        for (int w = 0; w < 12; w++) {
            n += upTo(3) == 0 ? upTo(3) : 0;
            told.append((char) (upTo(100) == 0 ? upTo(256) : n));
        }
        tape(upTo(20) == 0 ? told.substring(1) : told.toString());
        due("leaves", x.leaves(l, t), y.leaves(l, t));
        for (int w = 0; w < 12; w += 3) {
            int p = upTo(3);
            due("gone(" + p + "," + w + ")", x.gone(p, w), y.gone(p, w));
        }
    }
}
