import java.math.BigInteger;
import java.util.ArrayList;
import java.util.Comparator;
import java.util.HashSet;
import java.util.LinkedHashMap;
import java.util.List;
import java.util.Map;
import java.util.Set;
import java.util.TreeSet;

/** The document once more, written as slowly and as plainly as it can be, to hold the class against. */
final class Model {
    static final class Fault extends RuntimeException {
        private static final long serialVersionUID = 1;

        final int kind;
        final int place;

        Fault(int kind, int place) {
            this.kind = kind;
            this.place = place;
        }
    }

    record Man(String name, int parish, int father) { }
    record Birth(int told, int man, int year, int week) { }
    record Fact(int told, int man, int kind, int value, int from, int to) { }
    record Exam(int told, int man, int doctor, int grade) { }
    record Same(int told, int a, int b) { }
    record Sent(int told, int lot, int a, int b) { }
    record Token(String text, int place) { }

    interface Cond {
        boolean holds(Map<String, Integer> asked);
    }

    static final class Line {
        String kind;
        int number;
        int second;
        boolean not;
        Cond cond = asked -> true;
    }

    record Law(int told, int from, List<Line> lines) { }

    static final class Lot {
        int day;
        int wanted;
        List<Integer> weeks;
        List<Integer> letters;
    }

    final StringBuilder tape = new StringBuilder();
    int today;
    final List<Man> men = new ArrayList<>();
    final List<Birth> births = new ArrayList<>();
    final List<Fact> facts = new ArrayList<>();
    final List<Exam> exams = new ArrayList<>();
    final List<Same> sames = new ArrayList<>();
    final List<Sent> sends = new ArrayList<>();
    final List<Law> laws = new ArrayList<>();
    final List<Lot> lots = new ArrayList<>();
    final int[][] hands = new int[8][12];
    int[][] gone;
    int fault;
    int why = -1;
    List<Integer> mended = new ArrayList<>();
    int appeals;
    int heard;

    private static boolean in(int n, int least, int most) {
        return n >= least && n <= most;
    }

    private boolean isMan(int m) {
        return in(m, 0, men.size() - 1);
    }

    private boolean isLot(int l) {
        return in(l, 0, lots.size() - 1);
    }

    private String takeTape() {
        String text = tape.toString();
        tape.setLength(0);
        return text;
    }

    int feed(int... n) {
        if (tape.length() > 320) {
            return -1;
        }
        for (int number : n) {
            for (int i = 0; i < 4; i++) {
                tape.append((char) (number >>> 24 - 8 * i & 255));
            }
        }
        return tape.length();
    }

    boolean end(int n) {
        if (!in(n, 0, tape.length())) {
            return false;
        }
        tape.setLength(n);
        return true;
    }

    int next(int n) {
        if (!in(n, 0, 3639) || today + n > 3639) {
            return -1;
        }
        return today += n;
    }

    int man(int parish, int father) {
        String name = takeTape();
        if (!name.matches("[a-z]{1,8}") || !in(parish, 0, 7) || !in(father, 0, 59) || men.size() == 60) {
            return -1;
        }
        men.add(new Man(name, parish, father));
        return men.size() - 1;
    }

    boolean birth(int m, int year, int week) {
        return isMan(m) && in(year, -60, 9) && in(week, 0, 51) && births.size() < 100
            && births.add(new Birth(today, m, year, week));
    }

    boolean fact(int m, int kind, int value, int from, int to) {
        int[] most = {9, 9, 1, 1, 1, 250};
        return isMan(m) && in(kind, 0, 5) && in(value, 0, most[kind]) && in(from, 0, 3639) && in(to, from, 3639)
            && facts.size() < 240 && facts.add(new Fact(today, m, kind, value, from, to));
    }

    boolean exam(int m, int doctor, int grade) {
        return isMan(m) && in(doctor, 0, 7) && in(grade, 0, 9) && exams.size() < 60
            && exams.add(new Exam(today, m, doctor, grade));
    }

    boolean same(int a, int b) {
        return isMan(a) && isMan(b) && a != b && sames.size() < 40 && sames.add(new Same(today, a, b));
    }

    // ---- the law's text

    private final class Parser {
        final String text;
        final int end;
        final List<Line> lines = new ArrayList<>();
        int at;
        int ones;

        Parser(String text) {
            this.text = text;
            end = Math.min(300, text.length());
        }

        /** The token at the place, without going on: "" at the end, "?" what is none. */
        Token peek() {
            int from = at;
            while (from < end && (text.charAt(from) == ' ' || text.charAt(from) == '\n')) {
                from++;
            }
            if (from >= end) {
                return new Token("", end);
            }
            String rest = text.substring(from);
            String run = rest.replaceFirst("(?s)^([a-z0-9]*).*$", "$1");
            if (run.isEmpty()) {
                String sign = rest.substring(0, 1);
                return new Token(";()<=>".contains(sign) ? sign : "?", from);
            }
            boolean good = run.matches("[a-z]{1,8}") || run.matches("[0-9]{1,4}");
            return new Token(good ? run : "?" + run, from);
        }

        Token take() {
            Token token = peek();
            int length = token.text.startsWith("?") ? Math.max(1, token.text.length() - 1) : token.text.length();
            at = token.place + length;
            return token;
        }

        Token want(String pattern) {
            Token token = peek();
            if (!token.text.matches(pattern)) {
                throw new Fault(1, token.place);
            }
            return take();
        }

        int number(int least, int most) {
            Token token = want("[0-9]+");
            int n = Integer.parseInt(token.text);
            if (!in(n, least, most)) {
                throw new Fault(2, token.place);
            }
            return n;
        }

        List<Line> read() {
            while (!peek().text.isEmpty()) {
                lines.add(line());
            }
            if (text.length() > 300) {
                throw new Fault(1, 300);
            }
            return lines;
        }

        Line line() {
            Line line = new Line();
            Token word = want("age|free|later|class|send|appeal");
            line.kind = word.text;
            boolean twice = lines.stream().anyMatch(l -> l.kind.equals(word.text)) && word.text.matches("age|appeal");
            if (twice || lines.size() == 20) {
                throw new Fault(3, word.place);
            }
            switch (line.kind) {
                case "age":
                    line.number = number(0, 99);
                    want("to");
                    line.second = number(line.number, 99);
                    break;
                case "later":
                    line.number = number(1, 3000);
                    break;
                case "class":
                    line.number = number(0, 8);
                    break;
                case "appeal":
                    line.number = number(0, 999);
                    break;
                case "send":
                    if (peek().text.equals("not")) {
                        take();
                        line.not = true;
                    }
                    break;
                default:
                    break;
            }
            if (!word.text.matches("age|appeal") && peek().text.equals("if")) {
                take();
                line.cond = cond(1);
            }
            want(";");
            return line;
        }

        Cond cond(int depth) {
            Cond left = all(depth);
            if (peek().text.equals("or")) {
                take();
                Cond right = cond(depth);
                return asked -> left.holds(asked) || right.holds(asked);
            }
            return left;
        }

        Cond all(int depth) {
            Cond left = one(depth);
            if (peek().text.equals("and")) {
                take();
                Cond right = all(depth);
                return asked -> left.holds(asked) && right.holds(asked);
            }
            return left;
        }

        Cond one(int depth) {
            Token first = want("not|\\(|married|school|hides|sole|age|trade|children|height|grade|brothers|serving|parish");
            ones++;
            if (ones > 60 || depth > 12) {
                throw new Fault(4, first.place);
            }
            if (first.text.equals("not")) {
                Cond inner = one(depth + 1);
                return asked -> !inner.holds(asked);
            }
            if (first.text.equals("(")) {
                Cond inner = cond(depth + 1);
                want("\\)");
                return inner;
            }
            if (first.text.equals("sole")) {
                return asked -> asked.get("brothers") == 0;
            }
            if (first.text.matches("married|school|hides")) {
                return asked -> asked.get(first.text) == 1;
            }
            String sign = want("[<=>]").text;
            int n = Integer.parseInt(want("[0-9]+").text);
            return asked -> {
                int value = asked.get(first.text);
                return sign.equals("<") ? value < n : sign.equals("=") ? value == n : value > n;
            };
        }
    }

    int law(int from) {
        String text = takeTape();
        if (laws.size() == 8 || !in(from, today, 3639)) {
            return -1000;
        }
        try {
            List<Line> lines = new Parser(text).read();
            laws.add(new Law(today, from, lines));
            fault = 0;
            return lines.size();
        } catch (Fault f) {
            fault = f.kind;
            return -1 - f.place;
        }
    }

    private List<Line> lawOn(int day, int t) {
        List<Line> best = new ArrayList<>();
        int from = -1;
        for (Law law : laws) {
            if (law.told <= t && law.from <= day && law.from >= from) {
                best = law.lines;
                from = law.from;
            }
        }
        return best;
    }

    private static int telling(List<Line> lines, String kind, Map<String, Integer> asked) {
        for (int i = 0; i < lines.size(); i++) {
            if (lines.get(i).kind.equals(kind) && lines.get(i).cond.holds(asked)) {
                return i;
            }
        }
        return -1;
    }

    private static Line lineOf(List<Line> lines, String kind) {
        return lines.stream().filter(l -> l.kind.equals(kind)).findFirst().orElse(null);
    }

    // ---- lots and bowls

    int lot(int day, int wanted) {
        int least = lots.isEmpty() ? 0 : lots.get(lots.size() - 1).day;
        if (lots.size() == 4 || !in(day, Math.max(today, least), 3639) || !in(wanted, 0, 60)) {
            return -1;
        }
        Lot lot = new Lot();
        lot.day = day;
        lot.wanted = wanted;
        lots.add(lot);
        return lots.size() - 1;
    }

    private static List<Integer> picks(String text, int n) {
        List<Integer> picks = new ArrayList<>();
        for (char c : text.toCharArray()) {
            picks.add((int) c);
        }
        Set<Integer> all = new TreeSet<>(picks);
        boolean good = picks.size() == n && all.size() == n && all.stream().allMatch(p -> p < n);
        return good ? picks : null;
    }

    boolean weeks(int l) {
        List<Integer> picks = picks(takeTape(), 52);
        if (!isLot(l) || picks == null || lots.get(l).weeks != null) {
            return false;
        }
        lots.get(l).weeks = picks;
        return true;
    }

    boolean letters(int l) {
        List<Integer> picks = picks(takeTape(), 26);
        if (!isLot(l) || picks == null || lots.get(l).letters != null) {
            return false;
        }
        lots.get(l).letters = picks;
        return true;
    }

    boolean hands(int parish, int week, int n) {
        if (!in(parish, 0, 7) || !in(week, 0, 11) || !in(n, 0, 60)) {
            return false;
        }
        hands[parish][week] = n;
        return true;
    }

    // ---- what is known

    int who(int m, int t) {
        if (!isMan(m)) {
            return -1;
        }
        Set<Integer> one = new TreeSet<>(List.of(m));
        int size;
        do {
            size = one.size();
            for (Same same : sames) {
                if (same.told <= t && (one.contains(same.a) || one.contains(same.b))) {
                    one.add(same.a);
                    one.add(same.b);
                }
            }
        } while (one.size() > size);
        return one.iterator().next();
    }

    private Birth birthOf(int m, int t) {
        Birth last = null;
        for (Birth birth : births) {
            last = birth.man == m && birth.told <= t ? birth : last;
        }
        return last;
    }

    private boolean counts(int m, int t) {
        return birthOf(m, t) != null && who(m, t) == m;
    }

    int age(int m, int day, int t) {
        if (!isMan(m) || !in(day, 0, 3639) || birthOf(m, t) == null) {
            return -1;
        }
        Birth birth = birthOf(m, t);
        return Math.max(0, Math.floorDiv(day / 7 - birth.year * 52 - birth.week, 52));
    }

    private List<Integer> brothersOf(int m, int t) {
        List<Integer> all = new ArrayList<>();
        for (int b = 0; b < men.size(); b++) {
            if (b != m && counts(b, t) && men.get(b).father == men.get(m).father) {
                all.add(b);
            }
        }
        return all;
    }

    int brothers(int m, int t) {
        return isMan(m) && counts(m, t) ? brothersOf(m, t).size() : -1;
    }

    private int factOf(int m, int kind, int day, int t) {
        int value = 0;
        for (Fact fact : facts) {
            if (fact.man == m && fact.kind == kind && fact.told <= t && in(day, fact.from, fact.to)) {
                value = fact.value;
            }
        }
        return value;
    }

    private int gradeOf(int m, int day, int t) {
        int grade = 0;
        for (Exam exam : exams) {
            if (exam.man == m && exam.told <= t && exam.told <= day) {
                grade = exam.grade;
            }
        }
        return grade;
    }

    private Set<Integer> servingIn(int l, int t) {
        Set<Integer> all = new HashSet<>();
        Map<Integer, Integer> states = states(l, t);
        states.forEach((m, s) -> {
            if (s == 5) {
                all.add(last(l, m, t));
            }
        });
        return all;
    }

    private int last(int l, int m, int t) {
        for (Sent sent : sends) {
            if (sent.lot == l && sent.a == m && sent.told <= t) {
                return last(l, sent.b, t);
            }
        }
        return m;
    }

    private Map<String, Integer> asked(int l, int m, int t) {
        int day = lots.get(l).day;
        String[] kinds = {"trade", "children", "married", "school", "hides", "height"};
        Map<String, Integer> asked = new LinkedHashMap<>();
        for (int kind = 0; kind < 6; kind++) {
            asked.put(kinds[kind], factOf(m, kind, day, t));
        }
        asked.put("age", age(m, day, t));
        asked.put("grade", gradeOf(m, day, t));
        asked.put("brothers", brothersOf(m, t).size());
        asked.put("parish", men.get(m).parish);
        Set<Integer> serving = new HashSet<>();
        for (int i = 0; i < l; i++) {
            serving.addAll(servingMemo(i, t));
        }
        serving.retainAll(brothersOf(m, t));
        asked.put("serving", serving.size());
        return asked;
    }

    private final Map<List<Integer>, Set<Integer>> servingKept = new LinkedHashMap<>();
    private final Map<List<Integer>, Map<Integer, Integer>> statesKept = new LinkedHashMap<>();

    /** What was answered is kept until something more is told. */
    void forget() {
        servingKept.clear();
        statesKept.clear();
        listKept.clear();
    }

    private Set<Integer> servingMemo(int l, int t) {
        List<Integer> key = List.of(l, t);
        Set<Integer> kept = servingKept.get(key);
        if (kept == null) {
            kept = servingIn(l, t);
            servingKept.put(key, kept);
        }
        return kept;
    }

    /** State without the draw: 4 for all on the LIST; the line that told it behind. */
    private int[] bare(int l, int m, int t) {
        if (!counts(m, t)) {
            return new int[] {0, -1};
        }
        List<Line> law = lawOn(lots.get(l).day, t);
        Map<String, Integer> asked = asked(l, m, t);
        Line ages = lineOf(law, "age");
        int youngest = ages == null ? 20 : ages.number;
        int oldest = ages == null ? 25 : ages.second;
        if (!in(asked.get("age"), youngest, oldest)) {
            return new int[] {1, -1};
        }
        int free = telling(law, "free", asked);
        if (free >= 0) {
            return new int[] {2, free};
        }
        int later = telling(law, "later", asked);
        if (later >= 0) {
            return new int[] {3, later};
        }
        int group = telling(law, "class", asked);
        return new int[] {4, group, group < 0 ? 9 : law.get(group).number};
    }

    private final Map<List<Integer>, Map<Integer, int[]>> listKept = new LinkedHashMap<>();

    private Map<Integer, int[]> bares(int l, int t) {
        List<Integer> key = List.of(l, t);
        Map<Integer, int[]> kept = listKept.get(key);
        if (kept == null) {
            kept = new LinkedHashMap<>();
            for (int m = 0; m < men.size(); m++) {
                kept.put(m, bare(l, m, t));
            }
            listKept.put(key, kept);
        }
        return kept;
    }

    private List<Integer> list(int l, int parish, int t) {
        List<Integer> list = new ArrayList<>();
        Map<Integer, int[]> bares = bares(l, t);
        for (int m = 0; m < men.size(); m++) {
            if (men.get(m).parish == parish && bares.get(m)[0] == 4) {
                list.add(m);
            }
        }
        Lot lot = lots.get(l);
        list.sort(Comparator.<Integer>comparingInt(m -> bares.get(m)[2])
            .thenComparingInt(m -> placeOf(lot.weeks, birthOf(m, t).week))
            .thenComparingInt(m -> placeOf(lot.letters, men.get(m).name.charAt(0) - 'a'))
            .thenComparingInt(m -> m));
        return list;
    }

    private static int placeOf(List<Integer> picks, int n) {
        return picks == null ? n : picks.indexOf(n);
    }

    private int[] quotas(int l, int t) {
        int[] on = new int[8];
        int all = 0;
        for (int p = 0; p < 8; p++) {
            on[p] = list(l, p, t).size();
            all += on[p];
        }
        int wanted = Math.min(all, lots.get(l).wanted);
        int[] quota = new int[8];
        List<Integer> parishes = new ArrayList<>();
        int left = wanted;
        for (int p = 0; p < 8 && all > 0; p++) {
            quota[p] = wanted * on[p] / all;
            left -= quota[p];
            parishes.add(p);
        }
        int total = all;
        parishes.sort(Comparator.comparingInt(p -> -(wanted * on[p] % total)));
        for (int i = 0; i < left; i++) {
            quota[parishes.get(i)]++;
        }
        return quota;
    }

    private Map<Integer, Integer> states(int l, int t) {
        List<Integer> key = List.of(l, t);
        if (statesKept.containsKey(key)) {
            return statesKept.get(key);
        }
        Map<Integer, Integer> states = new LinkedHashMap<>();
        Map<Integer, int[]> bares = bares(l, t);
        for (int m = 0; m < men.size(); m++) {
            states.put(m, bares.get(m)[0]);
        }
        int[] quota = quotas(l, t);
        for (int p = 0; p < 8; p++) {
            for (int m : list(l, p, t).subList(0, quota[p])) {
                states.put(m, 5);
            }
        }
        statesKept.put(key, states);
        return states;
    }

    // ---- what is asked

    int state(int l, int m, int t) {
        if (!isLot(l) || !isMan(m)) {
            return -1;
        }
        why = bares(l, t).get(m)[1];
        return states(l, t).get(m);
    }

    int quota(int l, int parish, int t) {
        return isLot(l) && in(parish, 0, 7) ? quotas(l, t)[parish] : -1;
    }

    int place(int l, int m, int t) {
        return isLot(l) && isMan(m) ? list(l, men.get(m).parish, t).indexOf(m) : -1;
    }

    int called(int l, int t) {
        return isLot(l) ? (int) states(l, t).values().stream().filter(s -> s == 5).count() : -1;
    }

    boolean send(int l, int a, int b) {
        if (!isLot(l) || !isMan(a) || !isMan(b) || today < lots.get(l).day || sends.size() == 60) {
            return false;
        }
        Map<Integer, Integer> states = states(l, today);
        boolean wasSent = sends.stream().anyMatch(s -> s.lot == l && s.b == a);
        boolean must = states.get(a) == 5 || wasSent && states.get(a) != 0;
        boolean hasSent = sends.stream().anyMatch(s -> s.lot == l && s.a == a);
        boolean other = sends.stream().anyMatch(s -> s.lot == l && (s.a == b || s.b == b));
        if (!must || hasSent || other || states.get(b) != 1 && states.get(b) != 4) {
            return false;
        }
        List<Line> law = lawOn(lots.get(l).day, today);
        int line = telling(law, "send", asked(l, a, today));
        if (line >= 0 && law.get(line).not) {
            return false;
        }
        return sends.add(new Sent(today, l, a, b));
    }

    int serves(int l, int m, int t) {
        return isLot(l) && isMan(m) && states(l, t).get(m) == 5 ? last(l, m, t) : -1;
    }

    int mended(int l, int s, int t, boolean nothing) {
        if (!isLot(l)) {
            return -1;
        }
        mended = new ArrayList<>();
        for (int m = 0; m < men.size(); m++) {
            boolean before = states(l, s).get(m) == 5;
            boolean now = states(l, t).get(m) == 5;
            if (nothing ? before && !now : now && !before) {
                mended.add(m);
            }
        }
        return mended.size();
    }

    int mendedAt(int k) {
        return in(k, 0, mended.size() - 1) ? mended.get(k) : -1;
    }

    int appeal(int l, int m) {
        if (!isLot(l) || !isMan(m) || appeals == 60) {
            return -1;
        }
        int day = lots.get(l).day;
        Line line = lineOf(lawOn(day, today), "appeal");
        if (!in(today, day, day + (line == null ? 30 : line.number))) {
            return -1;
        }
        appeals++;
        if (states(l, day).get(m) == 5 && states(l, today).get(m) != 5) {
            heard++;
            return 1;
        }
        return 0;
    }

    private static BigInteger ways(int n, int k) {
        if (k < 0 || k > n) {
            return BigInteger.ZERO;
        }
        return k == 0 ? BigInteger.ONE
            : ways(n - 1, k - 1).multiply(BigInteger.valueOf(n)).divide(BigInteger.valueOf(k));
    }

    private static long chance(int n, int m, int k, int x, int what) {
        BigInteger upper = BigInteger.ZERO;
        for (int i = x; i <= n; i++) {
            upper = upper.add(ways(m, i).multiply(ways(n - m, k - i)));
        }
        BigInteger lower = ways(n, k);
        BigInteger common = upper.gcd(lower);
        return (what == 0 ? upper : lower).divide(common).longValueExact();
    }

    /** The exception's place is taken by Long.MIN_VALUE. */
    long mixed(int l, int k, int from, int to, int what) {
        if (!isLot(l) || !in(k, 0, 52) || !in(from, 0, 51) || !in(to, from, 51) || !in(what, 0, 2)) {
            return Long.MIN_VALUE;
        }
        int x = 0;
        for (int i = 0; i < k; i++) {
            x += in(lots.get(l).weeks == null ? i : lots.get(l).weeks.get(i), from, to) ? 1 : 0;
        }
        return what == 2 ? x : chance(52, to - from + 1, k, x, what);
    }

    long doubt(int doctor, int t, int what) {
        if (!in(doctor, 0, 7) || !in(what, 0, 2)) {
            return Long.MIN_VALUE;
        }
        List<Exam> known = exams.stream().filter(e -> e.told <= t).toList();
        int m = (int) known.stream().filter(e -> e.grade > 4).count();
        int k = (int) known.stream().filter(e -> e.doctor == doctor).count();
        int x = (int) known.stream().filter(e -> e.doctor == doctor && e.grade > 4).count();
        return what == 2 ? x : chance(known.size(), m, k, x, what);
    }

    private int mayGo(int l, int parish, int week, int t) {
        int there = 0;
        for (int m = 0; m < men.size(); m++) {
            there += men.get(m).parish == parish && counts(m, t) ? 1 : 0;
        }
        int called = quotas(l, t)[parish];
        int may = 0;
        for (int gone = 1; gone <= called; gone++) {
            boolean enough = true;
            for (int w = week; w < 12; w++) {
                enough &= there - gone >= hands[parish][w];
            }
            may = enough ? gone : may;
        }
        return may;
    }

    int leaves(int l, int t) {
        String told = takeTape();
        boolean good = told.length() == 12;
        for (int w = 1; w < 12 && good; w++) {
            good = told.charAt(w) >= told.charAt(w - 1);
        }
        if (!isLot(l) || !good) {
            return -1;
        }
        gone = new int[8][12];
        int[] now = new int[8];
        boolean can = true;
        for (int w = 0; w < 12; w++) {
            int all = 0;
            for (int p = 0; p < 8; p++) {
                all += now[p];
            }
            for (int p = 0; p < 8; p++) {
                int may = mayGo(l, p, w, t);
                while (all < told.charAt(w) && now[p] < may) {
                    now[p]++;
                    all++;
                }
                gone[p][w] = now[p];
            }
            can &= all == told.charAt(w);
        }
        return can ? 1 : 0;
    }

    int gone(int parish, int week) {
        return gone != null && in(parish, 0, 7) && in(week, 0, 11) ? gone[parish][week] : -1;
    }

    int count(int what) {
        int[] counts = {today, men.size(), lots.size(), laws.size(), facts.size(), exams.size(), sends.size(),
            appeals, heard, tape.length()};
        return in(what, 0, 9) ? counts[what] : -1;
    }
}
