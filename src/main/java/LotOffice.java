import java.util.Arrays;
import java.util.NoSuchElementException;

/** An office that calls men by lot. Nothing is made by a call: all rows are made with the object and used again. */
public final class LotOffice {
    public static final int NONE = -1;

    private static final int LAST_DAY = 3639;
    private static final int WEEK_DAYS = 7;
    private static final int YEAR_WEEKS = 52;
    private static final int LETTERS = 26;
    private static final int PARISHES = 8;
    private static final int DOCTORS = 8;
    private static final int FIELD_WEEKS = 12;

    private static final int MOST_MEN = 60;
    private static final int MOST_BIRTHS = 100;
    private static final int MOST_FACTS = 240;
    private static final int MOST_EXAMS = 60;
    private static final int MOST_SAMES = 40;
    private static final int MOST_SENDS = 60;
    private static final int MOST_APPEALS = 60;
    private static final int MOST_LAWS = 8;
    private static final int MOST_LOTS = 4;
    private static final int MOST_WANTED = 60;
    private static final int LAW_REFUSED = -1000;

    private static final int NOT_THERE = 0;
    private static final int NOT_OF_AGE = 1;
    private static final int FREE = 2;
    private static final int PUT_OFF = 3;
    private static final int NOT_REACHED = 4;
    private static final int CALLED = 5;

    /** The kinds of LINES. */
    private static final int AGE_LINE = 0;
    private static final int FREE_LINE = 1;
    private static final int LATER_LINE = 2;
    private static final int CLASS_LINE = 3;
    private static final int SEND_LINE = 4;
    private static final int APPEAL_LINE = 5;

    /** What a COND asks of a man; the kinds of FACTS come first, by their own numbers. */
    private static final int ASK_TRADE = 0;
    private static final int ASK_CHILDREN = 1;
    private static final int ASK_MARRIED = 2;
    private static final int ASK_SCHOOL = 3;
    private static final int ASK_HIDES = 4;
    private static final int ASK_HEIGHT = 5;
    private static final int ASK_AGE = 6;
    private static final int ASK_GRADE = 7;
    private static final int ASK_BROTHERS = 8;
    private static final int ASK_SERVING = 9;
    private static final int ASK_PARISH = 10;
    private static final int ASKED = 11;

    private final Tape tape = new Tape();
    private final People people = new People();
    private final Reader reader = new Reader();
    private final Law noLaw = new Law();
    private final Law[] laws = new Law[MOST_LAWS];
    private final Roll[] rolls = new Roll[MOST_LOTS];
    private final Fields fields = new Fields();
    private final boolean[] calledBefore = new boolean[MOST_MEN];
    private final int[] mendedMen = new int[MOST_MEN];
    private int mendedCount;
    private int today;
    private int lawCount;
    private int lotCount;
    private int lawFault;
    private int whyLine = NONE;
    private int appealCount;
    private int heardCount;

    public LotOffice() {
        for (int i = 0; i < MOST_LAWS; i++) {
            laws[i] = new Law();
        }
        for (int l = 0; l < MOST_LOTS; l++) {
            rolls[l] = new Roll(l);
        }
    }

    public int feed(int a, int b, int c, int d, int e) {
        if (tape.length + Tape.FED > Tape.MOST_BYTES) {
            return NONE;
        }
        tape.put(a);
        tape.put(b);
        tape.put(c);
        tape.put(d);
        tape.put(e);
        return tape.length;
    }

    public boolean end(int n) {
        if (n < 0 || n > tape.length) {
            return false;
        }
        tape.length = n;
        return true;
    }

    public int next(int n) {
        if (!isDay(n) || today + n > LAST_DAY) {
            return NONE;
        }
        today += n;
        return today;
    }

    public int man(int parish, int father) {
        boolean named = tape.holdsName();
        int letter = tape.at(0) - 'a';
        tape.length = 0;
        if (!named || !isParish(parish) || !isFather(father) || people.men >= MOST_MEN) {
            return NONE;
        }
        return people.addMan(parish, father, letter);
    }

    public boolean birth(int m, int year, int week) {
        if (!isMan(m) || year < -60 || year > 9 || !isWeek(week)) {
            return false;
        }
        return people.births.add(today, m, year * YEAR_WEEKS + week, 0, 0, 0);
    }

    public boolean fact(int m, int kind, int value, int from, int to) {
        if (!isMan(m) || !isFactValue(kind, value) || !isDay(from) || !isDay(to) || from > to) {
            return false;
        }
        return people.facts.add(today, m, kind, value, from, to);
    }

    public boolean exam(int m, int doctor, int grade) {
        if (!isMan(m) || !isDoctor(doctor) || grade < 0 || grade > 9) {
            return false;
        }
        return people.exams.add(today, m, doctor, grade, 0, 0);
    }

    public boolean same(int a, int b) {
        if (!isMan(a) || !isMan(b) || a == b) {
            return false;
        }
        return people.sames.add(today, a, b, 0, 0, 0);
    }

    public int law(int from) {
        if (lawCount >= MOST_LAWS || !isDay(from) || from < today) {
            tape.length = 0;
            return LAW_REFUSED;
        }
        Law law = laws[lawCount];
        boolean read = reader.read(tape, law);
        tape.length = 0;
        lawFault = reader.fault;
        if (!read) {
            return -1 - reader.place;
        }
        law.told = today;
        law.from = from;
        lawCount++;
        return law.lines;
    }

    public int fault() {
        return lawFault;
    }

    public int lot(int day, int wanted) {
        if (lotCount >= MOST_LOTS || !isDay(day) || day < today || wanted < 0 || wanted > MOST_WANTED) {
            return NONE;
        }
        if (lotCount > 0 && day < rolls[lotCount - 1].lot.day) {
            return NONE;
        }
        rolls[lotCount].lot.day = day;
        rolls[lotCount].lot.wanted = wanted;
        lotCount++;
        return lotCount - 1;
    }

    public boolean weeks(int l) {
        boolean taken = isLot(l) && rolls[l].lot.takeWeeks(tape);
        tape.length = 0;
        return taken;
    }

    public boolean letters(int l) {
        boolean taken = isLot(l) && rolls[l].lot.takeLetters(tape);
        tape.length = 0;
        return taken;
    }

    public boolean hands(int parish, int week, int n) {
        if (!isParish(parish) || !isFieldWeek(week) || n < 0 || n > MOST_MEN) {
            return false;
        }
        fields.hands[parish][week] = n;
        return true;
    }

    public int who(int m, int t) {
        if (!isMan(m)) {
            return NONE;
        }
        people.look(t);
        return people.who[m];
    }

    public int age(int m, int day, int t) {
        if (!isMan(m) || !isDay(day)) {
            return NONE;
        }
        people.look(t);
        return people.born[m] ? people.ageOn(m, day) : NONE;
    }

    public int brothers(int m, int t) {
        if (!isMan(m)) {
            return NONE;
        }
        people.look(t);
        return people.counts[m] ? people.brothersOf(m) : NONE;
    }

    public int state(int l, int m, int t) {
        if (!isLot(l) || !isMan(m)) {
            return NONE;
        }
        Roll roll = rollAsOf(l, t);
        whyLine = roll.line[m];
        return roll.state[m];
    }

    public int why() {
        return whyLine;
    }

    public int quota(int l, int parish, int t) {
        if (!isLot(l) || !isParish(parish)) {
            return NONE;
        }
        return rollAsOf(l, t).quota[parish];
    }

    public int place(int l, int m, int t) {
        if (!isLot(l) || !isMan(m)) {
            return NONE;
        }
        Roll roll = rollAsOf(l, t);
        return roll.isListed(m) ? roll.place[m] : NONE;
    }

    public int called(int l, int t) {
        return isLot(l) ? rollAsOf(l, t).called : NONE;
    }

    public boolean send(int l, int a, int b) {
        if (!isLot(l) || !isMan(a) || !isMan(b) || today < rolls[l].lot.day) {
            return false;
        }
        Roll roll = rollAsOf(l, today);
        if (!roll.maySend(a, lawFor(l, today)) || !roll.mayBeSent(b)) {
            return false;
        }
        return people.sends.add(today, l, a, b, 0, 0);
    }

    public int serves(int l, int m, int t) {
        if (!isLot(l) || !isMan(m)) {
            return NONE;
        }
        Roll roll = rollAsOf(l, t);
        return roll.state[m] == CALLED ? roll.endOfChain(m) : NONE;
    }

    public int mended(int l, int s, int t, boolean nothing) {
        if (!isLot(l)) {
            return NONE;
        }
        Roll roll = rollAsOf(l, s);
        for (int m = 0; m < people.men; m++) {
            calledBefore[m] = roll.state[m] == CALLED;
        }
        roll = rollAsOf(l, t);
        mendedCount = 0;
        for (int m = 0; m < people.men; m++) {
            boolean calledNow = roll.state[m] == CALLED;
            if (calledNow != calledBefore[m] && calledNow != nothing) {
                mendedMen[mendedCount] = m;
                mendedCount++;
            }
        }
        return mendedCount;
    }

    public int mendedAt(int k) {
        return k < 0 || k >= mendedCount ? NONE : mendedMen[k];
    }

    public int appeal(int l, int m) {
        if (!isLot(l) || !isMan(m) || appealCount >= MOST_APPEALS) {
            return NONE;
        }
        int day = rolls[l].lot.day;
        if (today < day || today - day > lawFor(l, today).appealDays) {
            return NONE;
        }
        boolean wasCalled = rollAsOf(l, day).state[m] == CALLED;
        boolean isCalled = rollAsOf(l, today).state[m] == CALLED;
        appealCount++;
        if (!wasCalled || isCalled) {
            return 0;
        }
        heardCount++;
        return 1;
    }

    public long mixed(int l, int k, int from, int to, int what) throws NoSuchElementException {
        if (!isLot(l) || k < 0 || k > YEAR_WEEKS || !isWeek(from) || !isWeek(to) || from > to || !isWhat(what)) {
            throw new NoSuchElementException();
        }
        int found = rolls[l].lot.pickedAhead(k, from, to);
        return what == 2 ? found : chance(YEAR_WEEKS, to - from + 1, k, found, what);
    }

    public long doubt(int doctor, int t, int what) throws NoSuchElementException {
        if (!isDoctor(doctor) || !isWhat(what)) {
            throw new NoSuchElementException();
        }
        int all = people.exams.knownBy(t);
        int marked = 0;
        int own = 0;
        int ownMarked = 0;
        for (int row = 0; row < all; row++) {
            boolean isMarked = people.exams.get(row, People.EXAM_GRADE) > 4;
            boolean isOwn = people.exams.get(row, People.EXAM_DOCTOR) == doctor;
            marked += isMarked ? 1 : 0;
            own += isOwn ? 1 : 0;
            ownMarked += isMarked && isOwn ? 1 : 0;
        }
        return what == 2 ? ownMarked : chance(all, marked, own, ownMarked, what);
    }

    public int leaves(int l, int t) {
        boolean asTold = isLot(l) && Fields.holdsTold(tape);
        int can = NONE;
        if (asTold) {
            can = fields.leave(tape, people, rollAsOf(l, t)) ? 1 : 0;
        }
        tape.length = 0;
        return can;
    }

    public int gone(int parish, int week) {
        if (!isParish(parish) || !isFieldWeek(week) || !fields.toldOnce) {
            return NONE;
        }
        return fields.goneBy[parish][week];
    }

    public int count(int what) {
        switch (what) {
            case 0: return today;
            case 1: return people.men;
            case 2: return lotCount;
            case 3: return lawCount;
            case 4: return people.facts.size;
            case 5: return people.exams.size;
            case 6: return people.sends.size;
            case 7: return appealCount;
            case 8: return heardCount;
            case 9: return tape.length;
            default: return NONE;
        }
    }

    private boolean isMan(int m) {
        return m >= 0 && m < people.men;
    }

    private boolean isLot(int l) {
        return l >= 0 && l < lotCount;
    }

    private static boolean isDay(int day) {
        return day >= 0 && day <= LAST_DAY;
    }

    private static boolean isWeek(int week) {
        return week >= 0 && week < YEAR_WEEKS;
    }

    private static boolean isFieldWeek(int week) {
        return week >= 0 && week < FIELD_WEEKS;
    }

    private static boolean isParish(int parish) {
        return parish >= 0 && parish < PARISHES;
    }

    private static boolean isFather(int father) {
        return father >= 0 && father < People.FATHERS;
    }

    private static boolean isDoctor(int doctor) {
        return doctor >= 0 && doctor < DOCTORS;
    }

    private static boolean isWhat(int what) {
        return what >= 0 && what <= 2;
    }

    private static boolean isFactValue(int kind, int value) {
        if (value < 0) {
            return false;
        }
        switch (kind) {
            case ASK_TRADE:
            case ASK_CHILDREN: return value <= 9;
            case ASK_MARRIED:
            case ASK_SCHOOL:
            case ASK_HIDES: return value <= 1;
            case ASK_HEIGHT: return value <= 250;
            default: return false;
        }
    }

    /** THE LAW for a LOT's DAY, as KNOWN AS OF t: laws of one DAY stand in the order of telling, so the last one wins. */
    private Law lawFor(int l, int t) {
        Law best = noLaw;
        for (int i = 0; i < lawCount; i++) {
            Law law = laws[i];
            if (law.told <= t && law.from <= rolls[l].lot.day && law.from >= best.from) {
                best = law;
            }
        }
        return best;
    }

    /** Draws the LOT's roll anew, ahead of it those of lesser LOTS only if its law asks who SERVES in them. */
    private Roll rollAsOf(int l, int t) {
        people.look(t);
        int first = lawFor(l, t).asksServing ? 0 : l;
        for (int i = first; i <= l; i++) {
            rolls[i].draw(people, lawFor(i, t));
        }
        return rolls[l];
    }

    /** The upper (what 0) or lower number of the chance that x or more of k out of n are among the m marked. */
    private static long chance(int n, int m, int k, int x, int what) {
        long upper = 0;
        for (int i = x; i <= k && i <= m; i++) {
            upper += ways(m, i) * ways(n - m, k - i);
        }
        long lower = ways(n, k);
        long common = commonDivisor(upper, lower);
        if (common <= 0) {
            return 0;
        }
        return what == 0 ? upper / common : lower / common;
    }

    /** How many ways there are to take k out of n (n to 60: each step stays below 2 to the 62nd). */
    private static long ways(int n, int k) {
        if (k < 0 || k > n) {
            return 0;
        }
        long ways = 1;
        for (int i = 0; i < k; i++) {
            ways = ways * (n - i) / (i + 1);
        }
        return ways;
    }

    private static long commonDivisor(long a, long b) {
        long greater = a;
        long less = b;
        for (int n = 0; n < 1000 && less != 0; n++) {
            long rest = greater % less;
            greater = less;
            less = rest;
        }
        return greater;
    }

    /** The bytes that are fed ahead of a call that takes them. */
    private static final class Tape {
        static final int MOST_BYTES = 340;
        static final int FED = 20;

        private final byte[] bytes = new byte[MOST_BYTES];
        int length;

        void put(int number) {
            for (int shift = 24; shift >= 0 && length < MOST_BYTES; shift -= 8) {
                bytes[length] = (byte) (number >> shift);
                length++;
            }
        }

        int at(int place) {
            return place < 0 || place >= length ? NONE : bytes[place] & 255;
        }

        boolean isLetter(int place) {
            return at(place) >= 'a' && at(place) <= 'z';
        }

        boolean isDigit(int place) {
            return at(place) >= '0' && at(place) <= '9';
        }

        boolean isBlank(int place) {
            return at(place) == 32 || at(place) == 10;
        }

        boolean holdsName() {
            if (length < 1 || length > 8) {
                return false;
            }
            for (int i = 0; i < length; i++) {
                if (!isLetter(i)) {
                    return false;
                }
            }
            return true;
        }

        /** Whether it has just so many bytes, each number from 0 on once. */
        boolean holdsPicks(int most) {
            if (length != most) {
                return false;
            }
            long seen = 0;
            for (int i = 0; i < most; i++) {
                int pick = at(i);
                if (pick >= most || (seen >> pick & 1) == 1) {
                    return false;
                }
                seen |= 1L << pick;
            }
            return true;
        }

        boolean holdsWord(String text, int start, int stop) {
            if (stop - start != text.length()) {
                return false;
            }
            for (int i = 0; i < text.length(); i++) {
                if (at(start + i) != text.charAt(i)) {
                    return false;
                }
            }
            return true;
        }
    }

    /** The WORDS of a law: which LINE one begins, what it asks in a COND, and what must be answered if no SIGN follows. */
    private enum Word {
        AGE("age", AGE_LINE, ASK_AGE, NONE),
        TO("to", NONE, NONE, NONE),
        FREED("free", FREE_LINE, NONE, NONE),
        IF("if", NONE, NONE, NONE),
        LATER("later", LATER_LINE, NONE, NONE),
        GROUP("class", CLASS_LINE, NONE, NONE),
        SEND("send", SEND_LINE, NONE, NONE),
        NOT("not", NONE, NONE, NONE),
        APPEAL("appeal", APPEAL_LINE, NONE, NONE),
        OR("or", NONE, NONE, NONE),
        AND("and", NONE, NONE, NONE),
        MARRIED("married", NONE, ASK_MARRIED, 1),
        SCHOOL("school", NONE, ASK_SCHOOL, 1),
        HIDES("hides", NONE, ASK_HIDES, 1),
        SOLE("sole", NONE, ASK_BROTHERS, 0),
        TRADE("trade", NONE, ASK_TRADE, NONE),
        CHILDREN("children", NONE, ASK_CHILDREN, NONE),
        HEIGHT("height", NONE, ASK_HEIGHT, NONE),
        GRADE("grade", NONE, ASK_GRADE, NONE),
        BROTHERS("brothers", NONE, ASK_BROTHERS, NONE),
        SERVING("serving", NONE, ASK_SERVING, NONE),
        PARISH("parish", NONE, ASK_PARISH, NONE);

        private static final Word[] ALL = values();

        final String text;
        final int line;
        final int asks;
        final int answer;

        Word(String text, int line, int asks, int answer) {
            this.text = text;
            this.line = line;
            this.asks = asks;
            this.answer = answer;
        }

        /** The word that stands on the tape from start to stop, null if it is none of the law's. */
        static Word find(Tape tape, int start, int stop) {
            for (Word word : ALL) {
                if (tape.holdsWord(word.text, start, stop)) {
                    return word;
                }
            }
            return null;
        }
    }

    /** A law's text as it was read: its LINES, and their CONDS as steps that leave one answer. */
    private static final class Law {
        static final int MOST_LINES = 20;
        static final int MOST_ONES = 60;
        static final int MOST_WITHIN = 12;
        static final int AND_STEP = -1;
        static final int OR_STEP = -2;
        static final int NOT_STEP = -3;

        int told;
        int from = NONE;
        int youngest = 20;
        int oldest = 25;
        int appealDays = 30;
        boolean asksServing;
        int lines;
        private final int[] kind = new int[MOST_LINES];
        private final int[] number = new int[MOST_LINES];
        private final int[] firstStep = new int[MOST_LINES];
        private final int[] endStep = new int[MOST_LINES];
        private final int[] steps = new int[2 * MOST_ONES];
        private int stepCount;

        void empty() {
            youngest = 20;
            oldest = 25;
            appealDays = 30;
            asksServing = false;
            lines = 0;
            stepCount = 0;
        }

        void addLine(int lineKind) {
            if (lines < MOST_LINES) {
                kind[lines] = lineKind;
                number[lines] = 0;
                firstStep[lines] = stepCount;
                endStep[lines] = stepCount;
                lines++;
            }
        }

        void setNumber(int value) {
            if (lines > 0) {
                number[lines - 1] = value;
            }
        }

        void addStep(int step) {
            if (stepCount < steps.length && lines > 0) {
                steps[stepCount] = step;
                stepCount++;
                endStep[lines - 1] = stepCount;
                asksServing = asksServing || (step >= 0 && (step & 15) == ASK_SERVING);
            }
        }

        /** A step that asks: below 0 there are none of these. */
        static int question(int asks, int sign, int than) {
            return than << 12 | sign << 4 | asks;
        }

        boolean hasLine(int lineKind) {
            for (int i = 0; i < lines; i++) {
                if (kind[i] == lineKind) {
                    return true;
                }
            }
            return false;
        }

        /** The first LINE of a kind whose COND holds for the answers that begin at a place; NONE without any. */
        int lineFor(int lineKind, int[] asked, int place) {
            for (int i = 0; i < lines; i++) {
                if (kind[i] == lineKind && holds(i, asked, place)) {
                    return i;
                }
            }
            return NONE;
        }

        int numberOf(int line, int without) {
            return line < 0 || line >= lines ? without : number[line];
        }

        /** Answers that wait are the bits of one number, the last one lowest: 12 within one another let no more than 25 wait. */
        private boolean holds(int line, int[] asked, int place) {
            long waiting = 0;
            for (int i = firstStep[line]; i < endStep[line]; i++) {
                int step = steps[i];
                long last = waiting & 1;
                if (step == NOT_STEP) {
                    waiting ^= 1;
                } else if (step == AND_STEP) {
                    waiting = waiting >> 1 & (last | ~1L);
                } else if (step == OR_STEP) {
                    waiting = waiting >> 1 | last;
                } else {
                    waiting = waiting << 1 | (answers(step, asked, place) ? 1 : 0);
                }
            }
            return firstStep[line] == endStep[line] || (waiting & 1) == 1;
        }

        private static boolean answers(int step, int[] asked, int place) {
            int at = place + (step & 15);
            if (at < 0 || at >= asked.length) {
                return false;
            }
            int than = step >> 12;
            switch (step >> 4 & 255) {
                case '<': return asked[at] < than;
                case '=': return asked[at] == than;
                default: return asked[at] > than;
            }
        }
    }

    /** The TOKENS of a law's text; the last one is its end. */
    private static final class Tokens {
        static final int THE_END = 0;
        static final int WORD = 1;
        static final int NUMBER = 2;
        static final int NO_TOKEN = 3;

        private static final int MOST_TEXT = 300;

        /** A sign's kind is the sign itself. */
        final int[] kind = new int[MOST_TEXT + 1];
        final int[] start = new int[MOST_TEXT + 1];
        final int[] value = new int[MOST_TEXT + 1];
        final Word[] word = new Word[MOST_TEXT + 1];
        int count;
        boolean tooLong;

        /** Takes all that begin within the longest text; one that is not as told is taken, too, as NO_TOKEN. */
        void read(Tape tape) {
            int textEnd = Math.min(tape.length, MOST_TEXT);
            tooLong = tape.length > MOST_TEXT;
            count = 0;
            int at = 0;
            for (int n = 0; n < MOST_TEXT && at < textEnd; n++) {
                if (tape.isBlank(at)) {
                    at++;
                } else if (tape.isLetter(at) || tape.isDigit(at)) {
                    at = readRun(tape, at);
                } else {
                    add(isSign(tape.at(at)) ? tape.at(at) : NO_TOKEN, at, 0, null);
                    at++;
                }
            }
            add(THE_END, textEnd, 0, null);
        }

        private static boolean isSign(int sign) {
            return sign == ';' || sign == '(' || sign == ')' || sign == '<' || sign == '=' || sign == '>';
        }

        /** Takes a WORD or a NUMBER, however far it goes on, and tells where it stops. */
        private int readRun(Tape tape, int from) {
            int letters = 0;
            int digits = 0;
            int number = 0;
            int stop = from;
            while (stop < tape.length && (tape.isLetter(stop) || tape.isDigit(stop))) {
                if (tape.isLetter(stop)) {
                    letters++;
                } else {
                    digits++;
                    number = digits > 4 ? 0 : number * 10 + tape.at(stop) - '0';
                }
                stop++;
            }
            if (digits == 0 && letters <= 8) {
                add(WORD, from, 0, Word.find(tape, from, stop));
            } else if (letters == 0 && digits <= 4) {
                add(NUMBER, from, number, null);
            } else {
                add(NO_TOKEN, from, 0, null);
            }
            return stop;
        }

        private void add(int itsKind, int itsStart, int itsValue, Word itsWord) {
            if (count < kind.length) {
                kind[count] = itsKind;
                start[count] = itsStart;
                value[count] = itsValue;
                word[count] = itsWord;
                count++;
            }
        }
    }

    /** Reads a tape as a law, TOKEN by TOKEN, as far as the first FAULT. */
    private static final class Reader {
        private static final int CANNOT_COME = 1;
        private static final int NUMBER_WRONG = 2;
        private static final int TOO_MANY_LINES = 3;
        private static final int TOO_MANY_ONES = 4;

        private final Tokens tokens = new Tokens();
        private Law law = new Law();
        int fault;
        int place;
        private int at;
        private int token;
        private Word word;
        private int ones;

        /** Whether the tape is a law; what it tells stands in the one given, else fault and place tell why not. */
        boolean read(Tape tape, Law into) {
            law = into;
            law.empty();
            fault = 0;
            place = 0;
            ones = 0;
            at = NONE;
            tokens.read(tape);
            readToken();
            for (int n = 0; n <= Law.MOST_LINES && token != Tokens.THE_END; n++) {
                if (!readLine()) {
                    return false;
                }
            }
            return !tokens.tooLong || fail(CANNOT_COME);
        }

        /** Goes on to the next TOKEN; behind the end there is none. */
        private void readToken() {
            if (at + 1 < tokens.count) {
                at++;
                token = tokens.kind[at];
                word = tokens.word[at];
            }
        }

        private boolean fail(int kind) {
            fault = kind;
            place = at < 0 || at >= tokens.count ? 0 : tokens.start[at];
            return false;
        }

        private boolean readLine() {
            Word first = word;
            if (first == null || first.line == NONE) {
                return fail(CANNOT_COME);
            }
            boolean once = first.line == AGE_LINE || first.line == APPEAL_LINE;
            if (law.lines >= Law.MOST_LINES || (once && law.hasLine(first.line))) {
                return fail(TOO_MANY_LINES);
            }
            law.addLine(first.line);
            readToken();
            if (!readHead(first.line)) {
                return false;
            }
            if (!once && word == Word.IF) {
                readToken();
                if (!readCond(0)) {
                    return false;
                }
            }
            return readSign(';');
        }

        /** What stands behind the first WORD of a LINE, ahead of its COND. */
        private boolean readHead(int lineKind) {
            switch (lineKind) {
                case AGE_LINE: return readAges();
                case LATER_LINE: return readNumber(1, 3000) != NONE;
                case CLASS_LINE: return readClass();
                case SEND_LINE: return readSend();
                case APPEAL_LINE: return readAppeal();
                default: return true;
            }
        }

        private boolean readAges() {
            law.youngest = readNumber(0, 99);
            if (law.youngest == NONE) {
                return false;
            }
            if (word != Word.TO) {
                return fail(CANNOT_COME);
            }
            readToken();
            law.oldest = readNumber(law.youngest, 99);
            return law.oldest != NONE;
        }

        private boolean readClass() {
            int number = readNumber(0, 8);
            law.setNumber(number);
            return number != NONE;
        }

        /** The LINE's number is 1 if one may send, 0 if not. */
        private boolean readSend() {
            law.setNumber(word == Word.NOT ? 0 : 1);
            if (word == Word.NOT) {
                readToken();
            }
            return true;
        }

        private boolean readAppeal() {
            law.appealDays = readNumber(0, 999);
            return law.appealDays != NONE;
        }

        private int readNumber(int least, int most) {
            if (token != Tokens.NUMBER) {
                fail(CANNOT_COME);
                return NONE;
            }
            int number = tokens.value[at];
            if (number < least || number > most) {
                fail(NUMBER_WRONG);
                return NONE;
            }
            readToken();
            return number;
        }

        private boolean readSign(int wanted) {
            if (token != wanted) {
                return fail(CANNOT_COME);
            }
            readToken();
            return true;
        }

        private boolean readCond(int within) {
            if (!readAll(within)) {
                return false;
            }
            for (int n = 0; n < Law.MOST_ONES && word == Word.OR; n++) {
                readToken();
                if (!readAll(within)) {
                    return false;
                }
                law.addStep(Law.OR_STEP);
            }
            return true;
        }

        private boolean readAll(int within) {
            if (!readOne(within)) {
                return false;
            }
            for (int n = 0; n < Law.MOST_ONES && word == Word.AND; n++) {
                readToken();
                if (!readOne(within)) {
                    return false;
                }
                law.addStep(Law.AND_STEP);
            }
            return true;
        }

        private boolean readOne(int within) {
            Word first = word;
            boolean asks = first != null && first.asks != NONE;
            if (!asks && first != Word.NOT && token != '(') {
                return fail(CANNOT_COME);
            }
            if (ones >= Law.MOST_ONES || within >= Law.MOST_WITHIN) {
                return fail(TOO_MANY_ONES);
            }
            ones++;
            readToken();
            if (asks) {
                return readQuestion(first);
            }
            if (first != Word.NOT) {
                return readCond(within + 1) && readSign(')');
            }
            if (!readOne(within + 1)) {
                return false;
            }
            law.addStep(Law.NOT_STEP);
            return true;
        }

        /** What stands behind a WORD that asks: SIGN and NUMBER, if it is not answered by yes or no. */
        private boolean readQuestion(Word question) {
            if (question.answer != NONE) {
                law.addStep(Law.question(question.asks, '=', question.answer));
                return true;
            }
            int sign = token;
            if (sign != '<' && sign != '=' && sign != '>') {
                return fail(CANNOT_COME);
            }
            readToken();
            if (token != Tokens.NUMBER) {
                return fail(CANNOT_COME);
            }
            law.addStep(Law.question(question.asks, sign, tokens.value[at]));
            readToken();
            return true;
        }
    }

    /** Rows of six numbers in the order they were told in; the first of each is the DAY it was told on. */
    private static final class Ledger {
        private static final int WIDTH = 6;

        private final int[] cells;
        private final int most;
        int size;

        Ledger(int most) {
            this.most = most;
            cells = new int[most * WIDTH];
        }

        boolean add(int day, int first, int second, int third, int fourth, int fifth) {
            if (size >= most) {
                return false;
            }
            int at = size * WIDTH;
            cells[at] = day;
            cells[at + 1] = first;
            cells[at + 2] = second;
            cells[at + 3] = third;
            cells[at + 4] = fourth;
            cells[at + 5] = fifth;
            size++;
            return true;
        }

        /** Of no row 0: that is a place in every array that is asked by it. */
        int get(int row, int column) {
            if (row < 0 || row >= size || column < 0 || column >= WIDTH) {
                return 0;
            }
            return cells[row * WIDTH + column];
        }

        /** How many rows, the first ones, are KNOWN AS OF t. */
        int knownBy(int t) {
            int rows = size;
            while (rows > 0 && get(rows - 1, 0) > t) {
                rows--;
            }
            return rows;
        }
    }

    /** MEN and what was told of them; and who they are, born when, and who is there, AS OF the DAY last looked at. */
    private static final class People {
        static final int FATHERS = 60;
        static final int MAN = 1;
        static final int BIRTH_WEEK = 2;
        static final int FACT_KIND = 2;
        static final int FACT_VALUE = 3;
        static final int FACT_FROM = 4;
        static final int FACT_TO = 5;
        static final int EXAM_DOCTOR = 2;
        static final int EXAM_GRADE = 3;
        static final int SAME_ONE = 1;
        static final int SAME_OTHER = 2;
        static final int SEND_LOT = 1;
        static final int SEND_BY = 2;
        static final int SENT = 3;

        int men;
        final int[] parish = new int[MOST_MEN];
        final int[] father = new int[MOST_MEN];
        /** Of a NAME only the first letter is ever asked: 0 a and so on. */
        final int[] letter = new int[MOST_MEN];
        final Ledger births = new Ledger(MOST_BIRTHS);
        final Ledger facts = new Ledger(MOST_FACTS);
        final Ledger exams = new Ledger(MOST_EXAMS);
        final Ledger sames = new Ledger(MOST_SAMES);
        final Ledger sends = new Ledger(MOST_SENDS);

        int asOf = NONE;
        final int[] who = new int[MOST_MEN];
        final boolean[] born = new boolean[MOST_MEN];
        /** The week of BIRTH, counted from that of DAY 0. */
        final int[] birthWeek = new int[MOST_MEN];
        /** Who is there and no mere NAME. */
        final boolean[] counts = new boolean[MOST_MEN];
        private final int[] sons = new int[FATHERS];
        /** How many of a PARISH are there, mere NAMES left out. */
        final int[] inParish = new int[PARISHES];
        /** Who SERVES in the LOTS that were drawn since the look. */
        final boolean[] serving = new boolean[MOST_MEN];

        int addMan(int itsParish, int itsFather, int itsLetter) {
            if (men >= MOST_MEN) {
                return NONE;
            }
            parish[men] = itsParish;
            father[men] = itsFather;
            letter[men] = itsLetter;
            men++;
            return men - 1;
        }

        void look(int t) {
            asOf = t;
            lookWho();
            lookBirths();
            Arrays.fill(sons, 0);
            Arrays.fill(inParish, 0);
            for (int m = 0; m < men; m++) {
                serving[m] = false;
                counts[m] = born[m] && who[m] == m;
                if (counts[m]) {
                    sons[father[m]]++;
                    inParish[parish[m]]++;
                }
            }
        }

        private void lookWho() {
            for (int m = 0; m < men; m++) {
                who[m] = m;
            }
            int rows = sames.knownBy(asOf);
            for (int row = 0; row < rows; row++) {
                int one = who[sames.get(row, SAME_ONE)];
                int other = who[sames.get(row, SAME_OTHER)];
                int least = Math.min(one, other);
                int greatest = Math.max(one, other);
                for (int m = 0; m < men; m++) {
                    who[m] = who[m] == greatest ? least : who[m];
                }
            }
        }

        private void lookBirths() {
            for (int m = 0; m < men; m++) {
                born[m] = false;
                birthWeek[m] = 0;
            }
            int rows = births.knownBy(asOf);
            for (int row = 0; row < rows; row++) {
                int m = births.get(row, MAN);
                born[m] = true;
                birthWeek[m] = births.get(row, BIRTH_WEEK);
            }
        }

        int ageOn(int m, int day) {
            int weeks = day / WEEK_DAYS - birthWeek[m];
            return weeks < 0 ? 0 : weeks / YEAR_WEEKS;
        }

        int brothersOf(int m) {
            return sons[father[m]] - 1;
        }

        int servingBrothersOf(int m) {
            int brothers = 0;
            for (int k = 0; k < men; k++) {
                brothers += k != m && counts[k] && serving[k] && father[k] == father[m] ? 1 : 0;
            }
            return brothers;
        }
    }

    /** A LOT as it was told, and the places its picks give to weeks and letters. */
    private static final class Lot {
        int day;
        int wanted;
        private boolean weeksTold;
        private boolean lettersTold;
        final int[] weekPlace = new int[YEAR_WEEKS];
        final int[] letterPlace = new int[LETTERS];

        Lot() {
            for (int week = 0; week < YEAR_WEEKS; week++) {
                weekPlace[week] = week;
            }
            for (int letter = 0; letter < LETTERS; letter++) {
                letterPlace[letter] = letter;
            }
        }

        boolean takeWeeks(Tape tape) {
            if (weeksTold || !tape.holdsPicks(YEAR_WEEKS)) {
                return false;
            }
            takePicks(tape, weekPlace);
            weeksTold = true;
            return true;
        }

        boolean takeLetters(Tape tape) {
            if (lettersTold || !tape.holdsPicks(LETTERS)) {
                return false;
            }
            takePicks(tape, letterPlace);
            lettersTold = true;
            return true;
        }

        private static void takePicks(Tape tape, int[] places) {
            for (int i = 0; i < places.length; i++) {
                int pick = tape.at(i);
                if (pick >= 0 && pick < places.length) {
                    places[pick] = i;
                }
            }
        }

        /** How many of the weeks from one to another one are among the first k picked. */
        int pickedAhead(int k, int from, int to) {
            int found = 0;
            for (int week = from; week <= to; week++) {
                found += weekPlace[week] < k ? 1 : 0;
            }
            return found;
        }
    }

    /** The roll of one LOT, drawn anew AS OF the DAY last looked at: STATES, QUOTAS, places, and who was SENT. */
    private static final class Roll {
        private final int number;
        final Lot lot = new Lot();
        private final int[] asked = new int[MOST_MEN * ASKED];
        final int[] state = new int[MOST_MEN];
        /** Which LINE of THE LAW told the state. */
        final int[] line = new int[MOST_MEN];
        private final int[] order = new int[MOST_MEN];
        final int[] place = new int[MOST_MEN];
        private final int[] listed = new int[PARISHES];
        final int[] quota = new int[PARISHES];
        private final int[] rest = new int[PARISHES];
        int called;
        /** Whom one has SENT. */
        private final int[] sent = new int[MOST_MEN];
        private final boolean[] wasSent = new boolean[MOST_MEN];

        Roll(int number) {
            this.number = number;
        }

        /** Draws it by a law; where that asks who is serving, the rolls of lesser LOTS must be drawn ahead of it. */
        void draw(People people, Law law) {
            ask(people, law);
            for (int m = 0; m < people.men; m++) {
                judge(people, law, m);
            }
            share(people);
            callUp(people);
            followChains(people);
        }

        boolean isListed(int m) {
            return state[m] == NOT_REACHED || state[m] == CALLED;
        }

        boolean maySend(int m, Law law) {
            boolean must = state[m] == CALLED || (wasSent[m] && state[m] != NOT_THERE);
            return must && sent[m] == NONE && law.numberOf(law.lineFor(SEND_LINE, asked, m * ASKED), 1) == 1;
        }

        boolean mayBeSent(int m) {
            boolean spare = state[m] == NOT_OF_AGE || state[m] == NOT_REACHED;
            return spare && !wasSent[m] && sent[m] == NONE;
        }

        int endOfChain(int m) {
            int last = m;
            for (int n = 0; n < MOST_SENDS && sent[last] != NONE; n++) {
                last = sent[last];
            }
            return last;
        }

        private void ask(People people, Law law) {
            Arrays.fill(asked, 0);
            for (int m = 0; m < people.men; m++) {
                int row = m * ASKED;
                asked[row + ASK_AGE] = people.ageOn(m, lot.day);
                asked[row + ASK_BROTHERS] = people.brothersOf(m);
                asked[row + ASK_PARISH] = people.parish[m];
                if (law.asksServing) {
                    asked[row + ASK_SERVING] = people.servingBrothersOf(m);
                }
            }
            askFacts(people);
            askGrades(people);
        }

        private void askFacts(People people) {
            Ledger facts = people.facts;
            int rows = facts.knownBy(people.asOf);
            for (int row = 0; row < rows; row++) {
                if (facts.get(row, People.FACT_FROM) <= lot.day && lot.day <= facts.get(row, People.FACT_TO)) {
                    int at = facts.get(row, People.MAN) * ASKED + facts.get(row, People.FACT_KIND);
                    asked[at] = facts.get(row, People.FACT_VALUE);
                }
            }
        }

        private void askGrades(People people) {
            Ledger exams = people.exams;
            int rows = exams.knownBy(Math.min(people.asOf, lot.day));
            for (int row = 0; row < rows; row++) {
                asked[exams.get(row, People.MAN) * ASKED + ASK_GRADE] = exams.get(row, People.EXAM_GRADE);
            }
        }

        private void judge(People people, Law law, int m) {
            int row = m * ASKED;
            line[m] = NONE;
            if (!people.counts[m]) {
                state[m] = NOT_THERE;
                return;
            }
            if (asked[row + ASK_AGE] < law.youngest || asked[row + ASK_AGE] > law.oldest) {
                state[m] = NOT_OF_AGE;
                return;
            }
            state[m] = FREE;
            line[m] = law.lineFor(FREE_LINE, asked, row);
            if (line[m] == NONE) {
                state[m] = PUT_OFF;
                line[m] = law.lineFor(LATER_LINE, asked, row);
            }
            if (line[m] == NONE) {
                state[m] = NOT_REACHED;
                line[m] = law.lineFor(CLASS_LINE, asked, row);
                order[m] = orderOf(people, m, law.numberOf(line[m], 9));
            }
        }

        /** One number that orders as class, week, letter and number do one behind the other. */
        private int orderOf(People people, int m, int group) {
            int week = lot.weekPlace[Math.floorMod(people.birthWeek[m], YEAR_WEEKS)];
            int letter = lot.letterPlace[people.letter[m]];
            return ((group * YEAR_WEEKS + week) * LETTERS + letter) * MOST_MEN + m;
        }

        private void share(People people) {
            int all = 0;
            Arrays.fill(listed, 0);
            for (int m = 0; m < people.men; m++) {
                if (isListed(m)) {
                    listed[people.parish[m]]++;
                    all++;
                }
            }
            called = Math.min(lot.wanted, all);
            int left = called;
            for (int p = 0; p < PARISHES; p++) {
                quota[p] = all == 0 ? 0 : called * listed[p] / all;
                rest[p] = all == 0 ? 0 : called * listed[p] % all;
                left -= quota[p];
            }
            for (int n = 0; n < left; n++) {
                shareOneMore();
            }
        }

        private void shareOneMore() {
            int greatest = 0;
            for (int p = 1; p < PARISHES; p++) {
                if (rest[p] > rest[greatest]) {
                    greatest = p;
                }
            }
            quota[greatest]++;
            rest[greatest] = -1;
        }

        private void callUp(People people) {
            for (int m = 0; m < people.men; m++) {
                place[m] = NONE;
                if (isListed(m)) {
                    place[m] = countAhead(people, m);
                    state[m] = place[m] < quota[people.parish[m]] ? CALLED : NOT_REACHED;
                }
            }
        }

        private int countAhead(People people, int m) {
            int ahead = 0;
            for (int k = 0; k < people.men; k++) {
                if (isListed(k) && people.parish[k] == people.parish[m] && order[k] < order[m]) {
                    ahead++;
                }
            }
            return ahead;
        }

        private void followChains(People people) {
            for (int m = 0; m < people.men; m++) {
                sent[m] = NONE;
                wasSent[m] = false;
            }
            Ledger sends = people.sends;
            int rows = sends.knownBy(people.asOf);
            for (int row = 0; row < rows; row++) {
                if (sends.get(row, People.SEND_LOT) == number) {
                    sent[sends.get(row, People.SEND_BY)] = sends.get(row, People.SENT);
                    wasSent[sends.get(row, People.SENT)] = true;
                }
            }
            for (int m = 0; m < people.men; m++) {
                if (state[m] == CALLED) {
                    people.serving[endOfChain(m)] = true;
                }
            }
        }
    }

    /** HANDS that the fields need, and who of a PARISH is gone by which week. */
    private static final class Fields {
        final int[][] hands = new int[PARISHES][FIELD_WEEKS];
        final int[][] goneBy = new int[PARISHES][FIELD_WEEKS];
        boolean toldOnce;

        static boolean holdsTold(Tape tape) {
            if (tape.length != FIELD_WEEKS) {
                return false;
            }
            for (int week = 1; week < FIELD_WEEKS; week++) {
                if (tape.at(week) < tape.at(week - 1)) {
                    return false;
                }
            }
            return true;
        }

        /** Lets go whom the tape tells, week by week; whether in each week as many are gone as told. */
        boolean leave(Tape tape, People people, Roll roll) {
            boolean can = true;
            int allGone = 0;
            toldOnce = true;
            for (int week = 0; week < FIELD_WEEKS; week++) {
                for (int p = 0; p < PARISHES; p++) {
                    int before = week == 0 ? 0 : goneBy[p][week - 1];
                    int may = Math.max(0, people.inParish[p] - mostHands(p, week));
                    int more = Math.min(Math.min(may, roll.quota[p]) - before, tape.at(week) - allGone);
                    goneBy[p][week] = before + more;
                    allGone += more;
                }
                can = can && allGone == tape.at(week);
            }
            return can;
        }

        /** The most HANDS needed in a week or any later one. */
        private int mostHands(int parish, int week) {
            int most = 0;
            for (int w = week; w < FIELD_WEEKS; w++) {
                most = Math.max(most, hands[parish][w]);
            }
            return most;
        }
    }
}
