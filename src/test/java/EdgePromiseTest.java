/** The edges that the promises themselves name, in their order, where the parts ahead of them have not told them. */
public final class EdgePromiseTest {
    public static void main(String[] args) {
        aNewObject();
        feedToItsEnd();
        feedHighestFirst();
        feedOfWhateverNumbers();
        endOfItsBytes();
        nextByDays();
        nextToTheLastDay();
        theTapeIsEmptyThen();
        lawsAnswers();
        lawRefused();
        faultOfTheLatest();
        whoOfNames();
        ageOfNobody();
        brothersOfNobody();
        whyOfTheLatestState();
        whyOfEachState();
        placeOnTheList();
        counts();
        callsThatThrow();
        Check.close();
    }

    private static void aNewObject() {
        Check.sentence("No MEN, LAW, LOTS; TODAY 0; an empty tape");
        LotOffice x = new LotOffice();
        for (int what = 0; what < 10; what++) {
            Check.due("count(" + what + ")", x.count(what), 0);
        }
        Check.due("a NAME from the empty tape", x.man(0, 0), -1);
        Check.due("picks from the empty tape", x.weeks(0), false);
        Check.due("a law from the empty tape", x.law(0), 0);
        Check.due("end of none", x.end(0), true);
        Check.due("end of one", x.end(1), false);
        Check.due("nobody", x.who(0, 0), -1);
        Check.due("no LOT", x.called(0, 0), -1);
        Check.due("the first man", Check.man(x, "a", 0, 0), 0);
        Check.due("the first LOT", x.lot(0, 0), 0);
        Check.due("another object knows nothing of it", new LotOffice().count(1), 0);
    }

    private static void feedToItsEnd() {
        Check.sentence("Twenty bytes come behind the tape: how many it has; NONE, and none come, if it would have more than 340");
        LotOffice x = new LotOffice();
        for (int n = 20; n <= 340; n += 20) {
            Check.due("feed to " + n, x.feed(0, 0, 0, 0, 0), n);
            Check.due("bytes", x.count(9), n);
        }
        Check.due("behind 340", x.feed(0, 0, 0, 0, 0), -1);
        for (int n = 340; n > 320; n--) {
            x.end(n);
            Check.due("behind " + n, x.feed(0, 0, 0, 0, 0), -1);
            Check.due("none came", x.count(9), n);
        }
        x.end(320);
        Check.due("behind 320", x.feed(0, 0, 0, 0, 0), 340);
        x.end(319);
        Check.due("behind 319", x.feed(0, 0, 0, 0, 0), 339);
        x.end(1);
        Check.due("behind 1", x.feed(0, 0, 0, 0, 0), 21);
    }

    private static void feedHighestFirst() {
        Check.sentence("of each number the highest first");
        LotOffice x = new LotOffice();
        x.lot(0, 0);
        Check.man(x, "a", 0, 0, -21, 0);
        Check.man(x, "b", 0, 0, -21, 0);
        x.feed(0x19181716, 0x15141312, 0x11100f0e, 0x0d0c0b0a, 0x09080706);
        x.feed(0x05040302, 0x0100ffff, -1, -1, -1);
        x.end(26);
        Check.due("25 down to 0", x.letters(0), true);
        Check.due("a is behind b", x.place(0, 0, 0), 1);
        x.feed(0x66726565, 0x3b3b3b3b, -1, -1, -1);
        x.end(5);
        Check.due("'free;'", x.law(0), 1);
        x.feed(0x66726565, 0x3b667265, 0x653b6672, 0x65653b66, 0x7265653b);
        Check.due("'free;' four times", x.law(0), 4);
        x.feed(0x66, 0, 0, 0, 0);
        Check.due("three bytes 0 ahead of 'f'", x.law(0), -1);
    }

    private static void feedOfWhateverNumbers() {
        Check.sentence("Twenty bytes come behind the tape, whatever the numbers are");
        LotOffice x = new LotOffice();
        x.lot(0, 0);
        int[] numbers = {Check.LEAST, Check.GREATEST, -1, 0, 1};
        for (int number : numbers) {
            Check.due("feed " + number, x.feed(number, number, number, number, number), 20);
            Check.due("no NAME in it", x.man(0, 0), -1);
        }
        x.feed(Check.LEAST, Check.LEAST, Check.LEAST, 0, 0);
        x.end(12);
        Check.due("128 0 0 0 are no TOLD", x.leaves(0, 0), -1);
        x.feed(-1, -1, -1, 0, 0);
        x.end(12);
        Check.due("255 all the time are", x.leaves(0, 0), 0);
        x.feed(0x000000ff, -1, -1, 0, 0);
        x.end(12);
        Check.due("0 0 0 255 .. are", x.leaves(0, 0), 0);
    }

    private static void endOfItsBytes() {
        Check.sentence("The tape has its first n bytes alone: true; false, if it has not so many, or n is below 0");
        LotOffice x = new LotOffice();
        int[] none = {-1, 1, 20, 340, Check.LEAST, Check.GREATEST};
        for (int n : none) {
            Check.due("of an empty tape " + n, x.end(n), false);
        }
        Check.due("of an empty tape 0", x.end(0), true);
        Check.tape(x, "abcdefgh");
        int[] no = {-1, 9, 20, Check.LEAST, Check.GREATEST};
        for (int n : no) {
            Check.due("of eight " + n, x.end(n), false);
            Check.due("eight are left", x.count(9), 8);
        }
        Check.due("of eight 8", x.end(8), true);
        Check.due("eight", x.count(9), 8);
        Check.due("of eight 7", x.end(7), true);
        Check.due("seven", x.count(9), 7);
        Check.due("the eighth is gone", x.end(8), false);
        Check.due("a NAME of seven", x.man(0, 0), 0);
        for (int i = 0; i < 17; i++) {
            x.feed(0, 0, 0, 0, 0);
        }
        Check.due("of 340 341", x.end(341), false);
        Check.due("of 340 340", x.end(340), true);
        Check.due("of 340 339", x.end(339), true);
        Check.due("of 339 340", x.end(340), false);
        Check.due("of 339 0", x.end(0), true);
    }

    private static void nextByDays() {
        Check.sentence("TODAY goes on by n DAYS (0 to 3639): TODAY; NONE: another n");
        LotOffice x = new LotOffice();
        int[] none = {-1, 3640, 3641, Check.LEAST, Check.GREATEST};
        for (int n : none) {
            Check.due("next(" + n + ")", x.next(n), -1);
            Check.due("TODAY stays", x.count(0), 0);
        }
        Check.due("next(0)", x.next(0), 0);
        Check.due("next(1)", x.next(1), 1);
        Check.due("TODAY", x.count(0), 1);
        Check.due("the most", new LotOffice().next(3639), 3639);
        Check.due("one less", new LotOffice().next(3638), 3638);
    }

    private static void nextToTheLastDay() {
        Check.sentence("NONE: it would be behind 3639");
        LotOffice x = new LotOffice();
        x.next(1);
        Check.due("to 3640", x.next(3639), -1);
        Check.due("TODAY stays", x.count(0), 1);
        Check.due("to 3639", x.next(3638), 3639);
        int[] none = {1, 2, 3639, 3640, -1, Check.LEAST, Check.GREATEST};
        for (int n : none) {
            Check.due("next(" + n + ") on the last DAY", x.next(n), -1);
        }
        Check.due("next(0) on the last DAY", x.next(0), 3639);
        Check.due("TODAY", x.count(0), 3639);
    }

    private static void theTapeIsEmptyThen() {
        Check.sentence("the tape (empty then, with a FAULT, or refused, too, here and below)");
        LotOffice x = new LotOffice();
        for (int l = -1; l < 1; l++) {
            x.feed(0, 0, 0, 0, 0);
            x.man(l, 0);
            Check.due("man", x.count(9), 0);
            x.feed(0, 0, 0, 0, 0);
            x.law(l);
            Check.due("law", x.count(9), 0);
            x.feed(0, 0, 0, 0, 0);
            x.weeks(l);
            Check.due("weeks", x.count(9), 0);
            x.feed(0, 0, 0, 0, 0);
            x.letters(l);
            Check.due("letters", x.count(9), 0);
            x.feed(0, 0, 0, 0, 0);
            x.leaves(l, 0);
            Check.due("leaves", x.count(9), 0);
            x.lot(0, 0);
        }
        Check.due("a man told by a tape", Check.man(x, "a", 0, 0), 0);
        Check.due("man", x.count(9), 0);
        Check.due("a second one needs a tape of his own", x.man(0, 0), -1);
        x.feed(1, 2, 3, 4, 5);
        x.birth(0, 0, 0);
        x.fact(0, 0, 0, 0, 0);
        x.exam(0, 0, 0);
        x.same(0, 0);
        x.lot(0, 0);
        x.hands(0, 0, 0);
        x.state(0, 0, 0);
        x.send(0, 0, 0);
        x.mended(0, 0, 0, false);
        x.appeal(0, 0);
        x.mixed(0, 0, 0, 0, 0);
        x.doubt(0, 0, 0);
        x.next(1);
        Check.due("all others leave it", x.count(9), 20);
    }

    private static void lawsAnswers() {
        Check.sentence("how many LINES; -1 - the place of a FAULT: none is told");
        LotOffice x = new LotOffice();
        Check.due("no LINES", Check.law(x, "", 0), 0);
        Check.due("twenty LINES", Check.law(x, "free;".repeat(20), 0), 20);
        Check.due("a FAULT at 0", Check.law(x, "x", 0), -1);
        Check.due("a FAULT at 300", Check.law(x, " ".repeat(301), 0), -301);
        Check.due("a FAULT at 299", Check.law(x, " ".repeat(299) + "x", 0), -300);
        Check.due("two are told", x.count(3), 2);
    }

    private static void lawRefused() {
        Check.sentence("-1000: there are 8, or no such DAY (TODAY or later)");
        LotOffice x = new LotOffice();
        int[] none = {-1, 3640, Check.LEAST, Check.GREATEST};
        for (int from : none) {
            Check.due("from " + from, Check.law(x, "free;", from), -1000);
            Check.due("no text from " + from, Check.law(x, "", from), -1000);
        }
        x.next(3639);
        Check.due("from the DAY ahead", Check.law(x, "free;", 3638), -1000);
        for (int i = 0; i < 8; i++) {
            Check.due("law " + i, Check.law(x, "free;", 3639), 1);
        }
        Check.due("a ninth", Check.law(x, "free;", 3639), -1000);
        Check.due("a ninth without text", Check.law(x, "", 3639), -1000);
        Check.due("eight", x.count(3), 8);
    }

    private static void faultOfTheLatest() {
        Check.sentence("The kind of the FAULT of the latest law() that did not tell -1000; 0 without one and ahead of any");
        LotOffice x = new LotOffice();
        Check.due("ahead of any", x.fault(), 0);
        Check.law(x, "free;", -1);
        Check.due("ahead of any that did not tell -1000", x.fault(), 0);
        String[] texts = {"x", "class 9;", "age 1 to 2;age", "free if " + "not ".repeat(12) + "sole;", "", "free;", " ".repeat(301)};
        int[] due = {1, 2, 3, 4, 0, 0, 1};
        for (int i = 0; i < texts.length; i++) {
            Check.law(x, texts[i], 0);
            Check.due("of '" + texts[i] + "'", x.fault(), due[i]);
            Check.law(x, i % 2 == 0 ? "free;" : "class 9;", 3640);
            Check.due("still of '" + texts[i] + "'", x.fault(), due[i]);
        }
        for (int i = 2; i < 8; i++) {
            Check.law(x, "free;", 0);
        }
        Check.due("of the eighth", x.fault(), 0);
        Check.due("a ninth", Check.law(x, "class 9;", 0), -1000);
        Check.due("still of the eighth", x.fault(), 0);
    }

    private static void whoOfNames() {
        Check.sentence("Who is the man AS OF t, if NAMES are one (the least number); NONE: no such one");
        LotOffice x = new LotOffice();
        Check.man(x, "a", 0, 0);
        Check.man(x, "b", 0, 0);
        Check.due("a man who is not there", x.who(1, 0), 1);
        x.same(1, 0);
        Check.due("the least number", x.who(1, 0), 0);
        Check.due("of itself", x.who(0, 0), 0);
        int[] none = {-1, 2, 59, 60, Check.LEAST, Check.GREATEST};
        for (int m : none) {
            Check.due("man " + m, x.who(m, 0), -1);
        }
    }

    private static void ageOfNobody() {
        Check.sentence("AGE on a DAY AS OF t (of a mere NAME its own); NONE: no such man or DAY, or no BIRTH is KNOWN");
        LotOffice x = new LotOffice();
        Check.man(x, "a", 0, 0, -30, 0);
        Check.man(x, "b", 0, 0, -20, 0);
        Check.man(x, "c", 0, 0);
        x.same(0, 1);
        Check.due("of a mere NAME its own", x.age(1, 0, 0), 20);
        Check.due("of the man his own", x.age(0, 0, 0), 30);
        Check.due("no BIRTH is KNOWN", x.age(2, 0, 0), -1);
        int[] none = {-1, 3, Check.LEAST, Check.GREATEST};
        for (int m : none) {
            Check.due("man " + m, x.age(m, 0, 0), -1);
        }
    }

    private static void brothersOfNobody() {
        Check.sentence("How many BROTHERS AS OF t; NONE: no such one, not there, or a mere NAME");
        LotOffice x = new LotOffice();
        Check.man(x, "a", 0, 0, -30, 0);
        Check.man(x, "b", 0, 0, -20, 0);
        Check.man(x, "c", 0, 0);
        Check.due("not there", x.brothers(2, 0), -1);
        Check.due("one BROTHER", x.brothers(0, 0), 1);
        x.same(0, 1);
        Check.due("a mere NAME", x.brothers(1, 0), -1);
        Check.due("no BROTHER", x.brothers(0, 0), 0);
        int[] none = {-1, 3, Check.LEAST, Check.GREATEST};
        for (int m : none) {
            Check.due("man " + m, x.brothers(m, 0), -1);
        }
    }

    private static void whyOfTheLatestState() {
        Check.sentence("The LINE that told the latest state() that was not NONE; NONE: ahead of any");
        LotOffice x = Check.office(2);
        Check.due("ahead of any", x.why(), -1);
        Check.due("LOT 0 is none", x.state(0, 0, 0), -1);
        Check.due("ahead of any that was not NONE", x.why(), -1);
        x.lot(0, 1);
        Check.law(x, "send;free;", 0);
        Check.due("free", x.state(0, 0, 0), 2);
        Check.due("LINE 1", x.why(), 1);
        int[] none = {-1, 2, Check.LEAST, Check.GREATEST};
        for (int n : none) {
            Check.due("LOT " + n, x.state(n, 0, 0), -1);
            Check.due("man " + n, x.state(0, n, 0), -1);
            Check.due("the latest stays", x.why(), 1);
        }
        Check.law(x, "later 5;", 0);
        x.called(0, 0);
        x.place(0, 0, 0);
        x.serves(0, 0, 0);
        Check.due("whatever else is asked and told", x.why(), 1);
        Check.due("put off", x.state(0, 0, 0), 3);
        Check.due("LINE 0", x.why(), 0);
    }

    private static void whyOfEachState() {
        Check.sentence("of 2 free, of 3 later, of 4, 5 class; NONE: none did, another STATE");
        LotOffice x = Check.office(5);
        Check.law(x, "class 1 if trade = 0;later 1 if trade = 1;free if trade = 2;class 2 if trade = 3;class 3;", 0);
        for (int m = 0; m < 5; m++) {
            x.fact(m, 0, m, 0, 0);
        }
        x.lot(0, 2);
        int[] state = {5, 3, 2, 5, 4};
        int[] why = {0, 1, 2, 3, 4};
        for (int m = 0; m < 5; m++) {
            Check.due("STATE of " + m, x.state(0, m, 0), state[m]);
            Check.due("LINE of " + m, x.why(), why[m]);
        }
        x.state(0, 0, -1);
        Check.due("STATE 0", x.why(), -1);
        x.state(0, 0, 0);
        x.birth(0, 0, 0);
        Check.due("STATE 1", x.state(0, 0, 0), 1);
        Check.due("without a LINE", x.why(), -1);
        Check.law(x, "", 0);
        x.state(0, 1, 0);
        Check.due("none did", x.why(), -1);
    }

    private static void placeOnTheList() {
        Check.sentence("How many of one's PARISH stand ahead of one on the LIST; NONE: no such ones, or not on it");
        LotOffice x = new LotOffice();
        Check.men(x, 2, 7);
        Check.men(x, 2, 0);
        Check.man(x, "y", 0, 9, -5, 0);
        x.lot(0, 0);
        int[] due = {0, 1, 0, 1, -1};
        for (int m = 0; m < 5; m++) {
            Check.due("place of " + m, x.place(0, m, 0), due[m]);
        }
    }

    private static void counts() {
        Check.sentence("0 TODAY, 1 MEN, 2 LOTS, 3 LAWS, 4 FACTS, 5 EXAMS, 6 SENT, 7 APPEALS, 8 those HEARD, 9 bytes of the tape. NONE for another what");
        LotOffice x = Check.office(3);
        int[] none = {-1, 10, Check.LEAST, Check.GREATEST};
        for (int what : none) {
            Check.due("count(" + what + ")", x.count(what), -1);
        }
        int[] due = {0, 3, 0, 0, 0, 0, 0, 0, 0, 0};
        counts(x, due);
        x.lot(0, 1);
        due[2]++;
        counts(x, due);
        Check.law(x, "", 0);
        due[3]++;
        counts(x, due);
        x.fact(0, 0, 0, 0, 0);
        due[4]++;
        counts(x, due);
        x.exam(0, 0, 0);
        due[5]++;
        counts(x, due);
        x.send(0, 0, 1);
        due[6]++;
        counts(x, due);
        x.appeal(0, 0);
        due[7]++;
        counts(x, due);
        x.next(2);
        x.birth(0, -40, 0);
        x.appeal(0, 0);
        due[0] = 2;
        due[7]++;
        due[8]++;
        counts(x, due);
        x.feed(0, 0, 0, 0, 0);
        x.end(7);
        due[9] = 7;
        counts(x, due);
    }

    private static void counts(LotOffice x, int[] due) {
        for (int what = 0; what < 10; what++) {
            Check.due("count(" + what + ")", x.count(what), due[what]);
        }
    }

    private static void callsThatThrow() {
        Check.sentence("An object is used for at most 512 calls; a call that throws changes nothing");
        LotOffice x = Check.office(2);
        x.lot(0, 1);
        for (int i = 0; i < 250; i++) {
            Check.refused("mixed", () -> x.mixed(0, 53, 0, 0, 0));
            Check.refused("doubt", () -> x.doubt(8, 0, 0));
        }
        Check.due("the 512th call", x.called(0, 0), 1);
    }
}
