/** The edges that the document's 'Terms' name, sentence by sentence: DAYS, MEN and what is told of them. */
public final class EdgeTermsTest {
    public static void main(String[] args) {
        days();
        weeksAndYears();
        knownFromTodayOn();
        lawsAndSendsAreKnownFromTodayOn();
        belowDayZeroNothing();
        farBehindEverything();
        countWheneverTold();
        numbersOfMen();
        names();
        severalOfOneName();
        parishesAndFathers();
        births();
        theLastBirthCounts();
        factKinds();
        factValuesAreAsked();
        factDays();
        theLastFactThatHolds();
        exams();
        gradeOnADay();
        lists();
        refusedOnesTakeNoPlace();
        sames();
        theLeastNumberIsTheMan();
        notThere();
        ages();
        brothers();
        Check.close();
    }

    private static void days() {
        Check.sentence("DAYS 0 .. 3639");
        LotOffice x = new LotOffice();
        int m = Check.man(x, "a", 0, 0, -20, 0);
        Check.due("AGE on the first DAY", x.age(m, 0, 0), 20);
        Check.due("AGE on the last DAY", x.age(m, 3639, 0), 29);
        Check.due("AGE on DAY -1", x.age(m, -1, 0), -1);
        Check.due("AGE on DAY 3640", x.age(m, 3640, 0), -1);
        Check.due("AGE on the least number", x.age(m, Check.LEAST, 0), -1);
        Check.due("AGE on the greatest number", x.age(m, Check.GREATEST, 0), -1);
        Check.due("a FACT from the first to the last", x.fact(m, 0, 0, 0, 3639), true);
        Check.due("a FACT from DAY -1", x.fact(m, 0, 0, -1, 3639), false);
        Check.due("a FACT to DAY 3640", x.fact(m, 0, 0, 0, 3640), false);
        Check.due("a FACT from the least number", x.fact(m, 0, 0, Check.LEAST, 0), false);
        Check.due("a FACT to the greatest number", x.fact(m, 0, 0, 0, Check.GREATEST), false);
        Check.due("a LOT on DAY -1", x.lot(-1, 0), -1);
        Check.due("a LOT on DAY 3640", x.lot(3640, 0), -1);
        Check.due("a LOT on the first DAY", x.lot(0, 0), 0);
        Check.due("a LOT on the last DAY", x.lot(3639, 0), 1);
        Check.due("a law from DAY -1", x.law(-1), -1000);
        Check.due("a law from DAY 3640", x.law(3640), -1000);
        Check.due("a law from the first DAY", x.law(0), 0);
        Check.due("a law from the last DAY", x.law(3639), 0);
    }

    private static void weeksAndYears() {
        Check.sentence("a week has 7, a YEAR 52 weeks; YEAR 0 begins with DAY 0");
        LotOffice x = new LotOffice();
        int a = Check.man(x, "a", 0, 0, -1, 1);
        Check.due("51 weeks on DAY 0", x.age(a, 0, 0), 0);
        Check.due("51 weeks on DAY 6", x.age(a, 6, 0), 0);
        Check.due("52 weeks on DAY 7", x.age(a, 7, 0), 1);
        Check.due("103 weeks on DAY 370", x.age(a, 370, 0), 1);
        Check.due("104 weeks on DAY 371", x.age(a, 371, 0), 2);
        int b = Check.man(x, "b", 0, 0, 0, 0);
        Check.due("the last DAY of YEAR 0", x.age(b, 363, 0), 0);
        Check.due("the first DAY of YEAR 1", x.age(b, 364, 0), 1);
        int c = Check.man(x, "c", 0, 0, 0, 51);
        Check.due("the week ahead", x.age(c, 720, 0), 0);
        Check.due("a YEAR behind the last week of YEAR 0", x.age(c, 721, 0), 1);
        int d = Check.man(x, "d", 0, 0, -1, 0);
        Check.due("YEAR -1 is one YEAR ahead of DAY 0", x.age(d, 0, 0), 1);
        int e = Check.man(x, "e", 0, 0, -1, 51);
        Check.due("its last week is one ahead of DAY 0: 51 weeks on DAY 356", x.age(e, 356, 0), 0);
        Check.due("52 weeks on DAY 357", x.age(e, 357, 0), 1);
    }

    private static void knownFromTodayOn() {
        Check.sentence("what is told is KNOWN from TODAY on");
        LotOffice x = new LotOffice();
        Check.due("TODAY is DAY 0 at first", x.count(0), 0);
        int a = Check.man(x, "a", 0, 0);
        int b = Check.man(x, "b", 0, 0, -20, 1);
        x.next(5);
        x.birth(a, -20, 0);
        Check.due("BIRTH on the DAY ahead", x.age(a, 0, 4), -1);
        Check.due("BIRTH on its DAY", x.age(a, 0, 5), 20);
        x.exam(a, 0, 9);
        Check.due("EXAM on the DAY ahead", x.doubt(0, 4, 2), 0);
        Check.due("EXAM on its DAY", x.doubt(0, 5, 2), 1);
        x.same(a, b);
        Check.due("SAME on the DAY ahead", x.who(b, 4), b);
        Check.due("SAME on its DAY", x.who(b, 5), a);
        x.next(3634);
        x.birth(a, -50, 0);
        Check.due("on the last DAY but one", x.age(a, 0, 3638), 20);
        Check.due("on the last DAY", x.age(a, 0, 3639), 50);
    }

    private static void lawsAndSendsAreKnownFromTodayOn() {
        LotOffice x = Check.office(4);
        x.lot(5, 1);
        x.next(5);
        x.fact(0, 2, 1, 0, 9);
        Check.law(x, "free if married;", 5);
        Check.due("law and FACT on the DAY ahead", x.state(0, 0, 4), 5);
        Check.due("law and FACT on their DAY", x.state(0, 0, 5), 2);
        x.next(1);
        x.fact(0, 2, 0, 0, 9);
        Check.due("a FACT on the DAY ahead", x.state(0, 0, 5), 2);
        Check.due("a FACT on its DAY", x.state(0, 0, 6), 5);
        x.send(0, 0, 3);
        x.next(1);
        x.send(0, 3, 2);
        Check.due("SENT on the DAY ahead", x.serves(0, 0, 6), 3);
        Check.due("SENT on its DAY", x.serves(0, 0, 7), 2);
    }

    private static void belowDayZeroNothing() {
        Check.sentence("AS OF a DAY t counts what is KNOWN on t or ahead (below 0: nothing)");
        LotOffice x = Check.office(3);
        x.lot(0, 2);
        x.same(0, 2);
        x.exam(0, 0, 9);
        int[] below = {-1, -2, -3640, Check.LEAST};
        for (int t : below) {
            Check.due("who AS OF " + t, x.who(2, t), 2);
            Check.due("age AS OF " + t, x.age(0, 0, t), -1);
            Check.due("brothers AS OF " + t, x.brothers(0, t), -1);
            Check.due("state AS OF " + t, x.state(0, 0, t), 0);
            Check.due("quota AS OF " + t, x.quota(0, 0, t), 0);
            Check.due("place AS OF " + t, x.place(0, 0, t), -1);
            Check.due("called AS OF " + t, x.called(0, t), 0);
            Check.due("serves AS OF " + t, x.serves(0, 0, t), -1);
            Check.due("mended from " + t, x.mended(0, t, 0, false), 2);
            Check.due("mended to " + t, x.mended(0, 0, t, true), 2);
            Check.due("mended from and to " + t, x.mended(0, t, t, false), 0);
            Check.due("doubt AS OF " + t, x.doubt(0, t, 2), 0);
            Check.tape(x, Check.like(12, 0));
            Check.due("leaves of nobody AS OF " + t, x.leaves(0, t), 1);
            Check.tape(x, Check.like(12, 1));
            Check.due("leaves of one AS OF " + t, x.leaves(0, t), 0);
        }
        Check.due("who AS OF 0", x.who(2, 0), 0);
        Check.due("called AS OF 0", x.called(0, 0), 2);
    }

    private static void farBehindEverything() {
        Check.sentence("AS OF a DAY t counts what is KNOWN on t or ahead");
        LotOffice x = Check.office(3);
        x.lot(0, 2);
        x.next(3);
        x.same(0, 2);
        x.exam(0, 0, 9);
        int[] behind = {3, 4, 3639, 3640, Check.GREATEST};
        for (int t : behind) {
            Check.due("who AS OF " + t, x.who(2, t), 0);
            Check.due("age AS OF " + t, x.age(0, 0, t), 21);
            Check.due("brothers AS OF " + t, x.brothers(0, t), 0);
            Check.due("state AS OF " + t, x.state(0, 0, t), 5);
            Check.due("state of a mere NAME AS OF " + t, x.state(0, 2, t), 0);
            Check.due("quota AS OF " + t, x.quota(0, 0, t), 2);
            Check.due("place AS OF " + t, x.place(0, 1, t), 1);
            Check.due("called AS OF " + t, x.called(0, t), 2);
            Check.due("serves AS OF " + t, x.serves(0, 1, t), 1);
            Check.due("mended to " + t, x.mended(0, -1, t, false), 2);
            Check.due("doubt AS OF " + t, x.doubt(0, t, 2), 1);
            Check.tape(x, Check.like(12, 2));
            Check.due("leaves AS OF " + t, x.leaves(0, t), 1);
        }
        Check.due("who AS OF 2", x.who(2, 2), 2);
        Check.due("doubt AS OF 2", x.doubt(0, 2, 2), 0);
    }

    private static void countWheneverTold() {
        Check.sentence("MEN, LOTS, picks, HANDS count whenever they were told");
        LotOffice x = Check.office(2);
        x.next(9);
        int c = Check.man(x, "c", 0, 0, -30, 0);
        Check.due("a man AS OF a DAY ahead", x.who(c, 0), c);
        Check.due("a man AS OF no DAY", x.who(c, -1), c);
        x.lot(9, 1);
        Check.due("a man is there by his BIRTH alone", x.state(0, c, 0), 0);
        Check.due("a LOT AS OF a DAY ahead", x.called(0, 0), 1);
        Check.due("a LOT AS OF no DAY", x.called(0, -1), 0);
        Check.due("without picks AS OF a DAY ahead", x.state(0, 0, 0), 5);
        x.next(9);
        Check.tape(x, Check.downFrom(52));
        x.weeks(0);
        Check.due("picks AS OF a DAY ahead", x.state(0, 0, 0), 4);
        Check.tape(x, Check.like(12, 1));
        Check.due("without HANDS", x.leaves(0, 0), 1);
        x.hands(0, 11, 2);
        Check.tape(x, Check.like(12, 1));
        Check.due("HANDS AS OF a DAY ahead", x.leaves(0, 0), 0);
    }

    private static void numbersOfMen() {
        Check.sentence("MEN 0 .. 59");
        LotOffice x = new LotOffice();
        for (int m = 0; m < 60; m++) {
            Check.due("nobody yet", x.who(m, 0), -1);
            Check.due("man " + m, Check.man(x, "a", 0, 0), m);
        }
        Check.due("a 61st", Check.man(x, "a", 0, 0), -1);
        Check.due("MEN", x.count(1), 60);
        Check.due("who 59", x.who(59, 0), 59);
        Check.due("who 60", x.who(60, 0), -1);
        Check.due("who -1", x.who(-1, 0), -1);
        Check.due("who of the least number", x.who(Check.LEAST, 0), -1);
        Check.due("who of the greatest number", x.who(Check.GREATEST, 0), -1);
        Check.due("BIRTH of 59", x.birth(59, 0, 0), true);
        Check.due("BIRTH of 60", x.birth(60, 0, 0), false);
        Check.due("59 and 0", x.same(59, 0), true);
        Check.due("59 and 60", x.same(59, 60), false);
        Check.due("who 59 now", x.who(59, 0), 0);
    }

    private static void names() {
        Check.sentence("a NAME of 1 to 8 small letters");
        String[] wrong = {"", "abcdefghi", "abcdefghijklmnopqrst", "A", "Z", "aB", "0", "a9", "a a", " a", "a ", "a\n", "`", "{",
            "a`", "a{", "abcdefg{", "\u0000", "a\u0000", "\u007f", "\u0080", "\u00e1", "\u00ff", "a\u00ff"};
        for (String name : wrong) {
            LotOffice x = new LotOffice();
            Check.due("'" + name + "'", Check.man(x, name, 0, 0), -1);
            Check.due("no man by it", x.count(1), 0);
            Check.due("an empty tape", x.count(9), 0);
        }
        String[] right = {"a", "z", "ab", "abcdefg", "abcdefgh", "zzzzzzzz", "azmazmaz"};
        for (String name : right) {
            LotOffice x = new LotOffice();
            Check.due("'" + name + "'", Check.man(x, name, 0, 0), 0);
            Check.due("a man by it", x.count(1), 1);
            Check.due("an empty tape", x.count(9), 0);
        }
        LotOffice x = new LotOffice();
        Check.tape(x, Check.like(340, 'a'));
        Check.due("the fullest tape", x.man(0, 0), -1);
        Check.due("an empty tape", x.count(9), 0);
    }

    private static void severalOfOneName() {
        Check.sentence("several may have one");
        LotOffice x = new LotOffice();
        Check.due("the first", Check.man(x, "a", 0, 0, -20, 0), 0);
        Check.due("the second", Check.man(x, "a", 0, 0, -20, 0), 1);
        x.lot(0, 1);
        Check.due("each is one: the first is CALLED", x.state(0, 0, 0), 5);
        Check.due("the second is not", x.state(0, 1, 0), 4);
        Check.due("they are BROTHERS", x.brothers(0, 0), 1);
    }

    private static void parishesAndFathers() {
        Check.sentence("each of a PARISH 0 .. 7 and a FATHER 0 .. 59");
        LotOffice x = new LotOffice();
        int[] noParish = {-1, 8, Check.LEAST, Check.GREATEST};
        for (int parish : noParish) {
            Check.due("PARISH " + parish, Check.man(x, "a", parish, 0), -1);
        }
        int[] noFather = {-1, 60, Check.LEAST, Check.GREATEST};
        for (int father : noFather) {
            Check.due("FATHER " + father, Check.man(x, "a", 0, father), -1);
        }
        Check.due("no man yet", x.count(1), 0);
        Check.due("PARISH 0, FATHER 0", Check.man(x, "a", 0, 0, -20, 0), 0);
        Check.due("PARISH 7, FATHER 59", Check.man(x, "a", 7, 59, -20, 0), 1);
        Check.due("PARISH 0, FATHER 59", Check.man(x, "a", 0, 59, -20, 0), 2);
        x.lot(0, 60);
        Check.due("of PARISH 0", x.quota(0, 0, 0), 2);
        Check.due("of PARISH 7", x.quota(0, 7, 0), 1);
        Check.due("of FATHER 0", x.brothers(0, 0), 0);
        Check.due("of FATHER 59", x.brothers(1, 0), 1);
    }

    private static void births() {
        Check.sentence("A BIRTH: a YEAR (-60 to 9) and a week of it (0 to 51)");
        LotOffice x = new LotOffice();
        int m = Check.man(x, "a", 0, 0);
        int[] noYear = {-61, 10, Check.LEAST, Check.GREATEST};
        for (int year : noYear) {
            Check.due("YEAR " + year, x.birth(m, year, 0), false);
        }
        int[] noWeek = {-1, 52, Check.LEAST, Check.GREATEST};
        for (int week : noWeek) {
            Check.due("week " + week, x.birth(m, 0, week), false);
        }
        Check.due("no BIRTH is KNOWN", x.age(m, 0, 0), -1);
        Check.due("YEAR -60, week 0", x.birth(m, -60, 0), true);
        Check.due("on DAY 0", x.age(m, 0, 0), 60);
        Check.due("the greatest AGE of all", x.age(m, 3639, 0), 69);
        Check.due("YEAR -60, week 51", x.birth(m, -60, 51), true);
        Check.due("on DAY 0", x.age(m, 0, 0), 59);
        Check.due("YEAR 9, week 0", x.birth(m, 9, 0), true);
        Check.due("on the last DAY", x.age(m, 3639, 0), 0);
        Check.due("YEAR 9, week 51", x.birth(m, 9, 51), true);
        Check.due("on the last DAY", x.age(m, 3639, 0), 0);
        Check.due("of man -1", x.birth(-1, 0, 0), false);
        Check.due("of man 1", x.birth(1, 0, 0), false);
        Check.due("of the greatest number", x.birth(Check.GREATEST, 0, 0), false);
        Check.due("of the least number", x.birth(Check.LEAST, 0, 0), false);
    }

    private static void theLastBirthCounts() {
        Check.sentence("told anew at will (the last one KNOWN counts)");
        LotOffice x = new LotOffice();
        int m = Check.man(x, "a", 0, 0, -20, 0);
        x.birth(m, -30, 0);
        Check.due("of two of one DAY", x.age(m, 0, 0), 30);
        x.next(1);
        x.birth(m, -10, 0);
        x.next(1);
        x.birth(m, -30, 0);
        Check.due("AS OF 0", x.age(m, 0, 0), 30);
        Check.due("AS OF 1", x.age(m, 0, 1), 10);
        Check.due("AS OF 2", x.age(m, 0, 2), 30);
    }

    private static void factKinds() {
        Check.sentence("of a KIND 0 trade (0 to 9), 1 children (0 to 9), 2 married, 3 school, 4 hides (0, 1 each), 5 height (0 to 250)");
        LotOffice x = new LotOffice();
        Check.man(x, "a", 0, 0);
        int[] most = {9, 9, 1, 1, 1, 250};
        for (int kind = 0; kind < 6; kind++) {
            Check.due("least of KIND " + kind, x.fact(0, kind, 0, 0, 0), true);
            Check.due("most of KIND " + kind, x.fact(0, kind, most[kind], 0, 0), true);
            int[] none = {-1, most[kind] + 1, Check.LEAST, Check.GREATEST};
            for (int value : none) {
                Check.due(value + " of KIND " + kind, x.fact(0, kind, value, 0, 0), false);
            }
        }
        int[] noKind = {-1, 6, Check.LEAST, Check.GREATEST};
        for (int kind : noKind) {
            Check.due("KIND " + kind, x.fact(0, kind, 0, 0, 0), false);
        }
        int[] noMan = {-1, 1, Check.LEAST, Check.GREATEST};
        for (int m : noMan) {
            Check.due("man " + m, x.fact(m, 0, 0, 0, 0), false);
        }
        Check.due("those that were taken", x.count(4), 12);
    }

    /** Whether one of whom the FACT is told is free by the COND. */
    private static void isAsked(int kind, int value, String cond, boolean due) {
        LotOffice x = Check.office(1);
        x.lot(0, 1);
        Check.due("law", Check.law(x, "free if " + cond + ";", 0), 1);
        x.fact(0, kind, value, 0, 0);
        Check.due(cond + " of KIND " + kind + ", " + value, x.state(0, 0, 0) == 2, due);
    }

    private static void factValuesAreAsked() {
        String[] least = {"trade > 0", "children > 0", "married", "school", "hides", "height > 0"};
        String[] most = {"trade = 9", "children = 9", "married", "school", "hides", "height = 250"};
        int[] mostOf = {9, 9, 1, 1, 1, 250};
        for (int kind = 0; kind < 6; kind++) {
            isAsked(kind, mostOf[kind], most[kind], true);
            isAsked(kind, 0, least[kind], false);
            isAsked(kind, 1, least[kind], true);
            for (int other = 0; other < 6; other++) {
                if (other != kind) {
                    isAsked(kind, mostOf[kind], least[other], false);
                }
            }
        }
    }

    private static void factDays() {
        Check.sentence("from a DAY to another one (both with it)");
        LotOffice x = Check.office(4);
        Check.law(x, "free if hides;", 0);
        x.fact(0, 4, 1, 0, 99);
        x.fact(1, 4, 1, 100, 100);
        x.fact(2, 4, 1, 101, 3639);
        x.fact(3, 4, 1, 99, 101);
        x.lot(99, 0);
        x.lot(100, 0);
        x.lot(101, 0);
        int[][] due = {{2, 4, 4, 2}, {4, 2, 4, 2}, {4, 4, 2, 2}};
        for (int l = 0; l < 3; l++) {
            for (int m = 0; m < 4; m++) {
                Check.due("man " + m + " on DAY " + (99 + l), x.state(l, m, 0), due[l][m]);
            }
        }
        Check.due("to a DAY ahead of from", x.fact(0, 4, 1, 1, 0), false);
        Check.due("to the first ahead of from the last", x.fact(0, 4, 1, 3639, 0), false);
        Check.due("the first DAY alone", x.fact(0, 4, 1, 0, 0), true);
        Check.due("the last DAY alone", x.fact(0, 4, 1, 3639, 3639), true);
    }

    private static void theLastFactThatHolds() {
        Check.sentence("on a DAY the value of the last one told that holds on it; 0 without any");
        LotOffice x = Check.office(1);
        Check.law(x, "free if trade = 0;later 1 if trade = 1;class 3 if trade = 2;", 0);
        x.lot(50, 1);
        Check.due("without any", x.state(0, 0, 0), 2);
        x.fact(0, 0, 1, 0, 49);
        x.fact(0, 0, 1, 51, 60);
        Check.due("with none that holds", x.state(0, 0, 0), 2);
        x.fact(0, 0, 1, 50, 50);
        Check.due("with one", x.state(0, 0, 0), 3);
        x.fact(0, 0, 2, 0, 3639);
        Check.due("with one told behind it", x.state(0, 0, 0), 5);
        x.fact(0, 0, 1, 51, 51);
        Check.due("the last one does not hold", x.state(0, 0, 0), 5);
        x.next(1);
        x.fact(0, 0, 0, 50, 50);
        Check.due("0 may be told, too", x.state(0, 0, 1), 2);
        Check.due("AS OF the DAY ahead", x.state(0, 0, 0), 5);
    }

    private static void exams() {
        Check.sentence("a DOCTOR 0 .. 7 tells of a man a GRADE 0 to 9 on TODAY");
        LotOffice x = new LotOffice();
        Check.man(x, "a", 0, 0);
        int[] noDoctor = {-1, 8, Check.LEAST, Check.GREATEST};
        for (int doctor : noDoctor) {
            Check.due("DOCTOR " + doctor, x.exam(0, doctor, 5), false);
        }
        int[] noGrade = {-1, 10, Check.LEAST, Check.GREATEST};
        for (int grade : noGrade) {
            Check.due("GRADE " + grade, x.exam(0, 0, grade), false);
        }
        int[] noMan = {-1, 1, Check.LEAST, Check.GREATEST};
        for (int m : noMan) {
            Check.due("man " + m, x.exam(m, 0, 5), false);
        }
        Check.due("none yet", x.count(5), 0);
        Check.due("DOCTOR 0, GRADE 0", x.exam(0, 0, 0), true);
        Check.due("DOCTOR 7, GRADE 9", x.exam(0, 7, 9), true);
        Check.due("two", x.count(5), 2);
        Check.due("of DOCTOR 7 above 4", x.doubt(7, 0, 2), 1);
        Check.due("of DOCTOR 0 above 4", x.doubt(0, 0, 2), 0);
    }

    private static void gradeOnADay() {
        Check.sentence("on a DAY d the GRADE of the last one on d or ahead; 0 without any");
        LotOffice x = Check.office(1);
        Check.law(x, "free if grade = 0;later 1 if grade = 9;", 0);
        x.lot(10, 1);
        Check.due("without any", x.state(0, 0, 0), 2);
        x.next(9);
        x.exam(0, 0, 9);
        Check.due("on the DAY ahead", x.state(0, 0, 9), 3);
        Check.due("AS OF a DAY ahead of it", x.state(0, 0, 8), 2);
        x.next(1);
        x.exam(0, 0, 9);
        x.exam(0, 1, 1);
        Check.due("the last one on d", x.state(0, 0, 10), 5);
        x.next(1);
        x.exam(0, 0, 9);
        Check.due("the DAY behind", x.state(0, 0, 11), 5);
        LotOffice y = Check.office(1);
        Check.law(y, "free if grade = 9;", 0);
        y.lot(10, 1);
        y.next(11);
        y.exam(0, 0, 9);
        Check.due("none but behind d", y.state(0, 0, 11), 5);
    }

    private static void lists() {
        LotOffice x = new LotOffice();
        Check.man(x, "a", 0, 0);
        Check.man(x, "b", 0, 0);
        Check.sentence("FACTS (240)");
        for (int i = 0; i < 239; i++) {
            x.fact(0, 0, 0, 0, 0);
        }
        Check.due("the 240th", x.fact(1, 5, 250, 0, 3639), true);
        Check.due("the 241st", x.fact(1, 5, 250, 0, 3639), false);
        Check.due("of the other man", x.fact(0, 0, 0, 0, 0), false);
        Check.due("count", x.count(4), 240);
        Check.sentence("EXAMS (60)");
        for (int i = 0; i < 59; i++) {
            x.exam(0, 0, 0);
        }
        Check.due("the 60th", x.exam(1, 7, 9), true);
        Check.due("the 61st", x.exam(1, 7, 9), false);
        Check.due("of the other man", x.exam(0, 0, 0), false);
        Check.due("count", x.count(5), 60);
        Check.due("the 60th counts", x.doubt(7, 0, 2), 1);
        Check.sentence("(BIRTHS 100 in all.)");
        for (int i = 0; i < 99; i++) {
            x.birth(0, -20, 0);
        }
        Check.due("the 100th", x.birth(1, -30, 0), true);
        Check.due("the 101st", x.birth(1, -40, 0), false);
        Check.due("of the other man", x.birth(0, -40, 0), false);
        Check.due("the 100th counts", x.age(1, 0, 0), 30);
        Check.due("the 99th counts", x.age(0, 0, 0), 20);
        Check.sentence("SAME (40)");
        for (int i = 0; i < 39; i++) {
            x.same(0, 1);
        }
        Check.man(x, "c", 0, 0);
        Check.man(x, "d", 0, 0);
        Check.due("the 40th", x.same(3, 2), true);
        Check.due("the 41st", x.same(2, 1), false);
        Check.due("the 40th counts, the 41st does not", x.who(3, 0), 2);
    }

    private static void refusedOnesTakeNoPlace() {
        LotOffice x = new LotOffice();
        Check.man(x, "a", 0, 0);
        Check.man(x, "b", 0, 0);
        for (int i = 0; i < 60; i++) {
            x.exam(0, 8, 0);
            x.same(0, 0);
        }
        Check.sentence("SAME (40), refused ones among them");
        for (int i = 0; i < 40; i++) {
            Check.due("SAME " + i, x.same(0, 1), true);
        }
        Check.due("the 41st", x.same(0, 1), false);
        Check.sentence("EXAMS (60), refused ones among them");
        for (int i = 0; i < 60; i++) {
            Check.due("EXAM " + i, x.exam(0, 0, 0), true);
        }
        Check.due("the 61st", x.exam(0, 0, 0), false);
        LotOffice y = new LotOffice();
        Check.man(y, "a", 0, 0);
        for (int i = 0; i < 20; i++) {
            y.birth(0, 10, 0);
            y.fact(0, 6, 0, 0, 0);
        }
        Check.sentence("(BIRTHS 100 in all.), refused ones among them");
        for (int i = 0; i < 100; i++) {
            Check.due("BIRTH " + i, y.birth(0, 0, 0), true);
        }
        Check.due("the 101st", y.birth(0, 0, 0), false);
        Check.sentence("FACTS (240), refused ones among them");
        for (int i = 0; i < 240; i++) {
            Check.due("FACT " + i, y.fact(0, 0, 0, 0, 0), true);
        }
        Check.due("the 241st", y.fact(0, 0, 0, 0, 0), false);
    }

    private static void sames() {
        Check.sentence("two NAMES are one man; who is the SAME as one who is the SAME is so, too");
        LotOffice x = new LotOffice();
        for (int m = 0; m < 42; m++) {
            Check.man(x, "a", 0, 0);
        }
        for (int m = 41; m > 1; m--) {
            Check.due("SAME", x.same(m, m - 1), true);
        }
        for (int m = 1; m < 42; m++) {
            Check.due("the longest row of them, " + m, x.who(m, 0), 1);
        }
        Check.due("who is the SAME as nobody", x.who(0, 0), 0);
        int[] noMan = {-1, 42, Check.LEAST, Check.GREATEST};
        LotOffice y = new LotOffice();
        for (int m = 0; m < 42; m++) {
            Check.man(y, "a", 0, 0);
        }
        for (int m : noMan) {
            Check.due(m + " and 0", y.same(m, 0), false);
            Check.due("0 and " + m, y.same(0, m), false);
            Check.due(m + " and " + m, y.same(m, m), false);
        }
        Check.due("both one, 0", y.same(0, 0), false);
        Check.due("both one, 41", y.same(41, 41), false);
        Check.due("the last and the first", y.same(41, 0), true);
        Check.due("who 41", y.who(41, 0), 0);
        Check.due("two pairs", y.same(5, 6), true);
        Check.due("who 6", y.who(6, 0), 5);
        Check.due("become one by any two of them", y.same(6, 41), true);
        Check.due("who 5", y.who(5, 0), 0);
    }

    private static void theLeastNumberIsTheMan() {
        Check.sentence("the one with the least number is the man; the others are mere NAMES, and what was told of them is of no matter");
        LotOffice x = Check.office(4);
        Check.law(x, "free if married;", 0);
        x.lot(0, 2);
        x.fact(2, 2, 1, 0, 3639);
        x.next(1);
        x.same(2, 0);
        Check.due("the least is the man", x.state(0, 0, 1), 5);
        Check.due("the other one is a mere NAME", x.state(0, 2, 1), 0);
        Check.due("AS OF the DAY ahead", x.state(0, 2, 0), 2);
        Check.due("of a mere NAME no BROTHERS", x.brothers(2, 1), -1);
        Check.due("AGE of a mere NAME is its own", x.age(2, 0, 1), 21);
        LotOffice y = new LotOffice();
        int least = Check.man(y, "a", 0, 0);
        int other = Check.man(y, "b", 0, 0, -20, 0);
        y.lot(0, 2);
        y.same(least, other);
        Check.due("the man of whom no BIRTH is KNOWN", y.state(0, least, 0), 0);
        Check.due("his mere NAME, though its BIRTH is", y.state(0, other, 0), 0);
        Check.due("nobody is left", y.called(0, 0), 0);
        Check.due("AGE of the mere NAME", y.age(other, 0, 0), 20);
        Check.due("AGE of the man", y.age(least, 0, 0), -1);
        Check.due("BROTHERS of the man", y.brothers(least, 0), -1);
    }

    private static void notThere() {
        Check.sentence("A man of whom no BIRTH is KNOWN AS OF t is not there");
        LotOffice x = new LotOffice();
        Check.man(x, "a", 0, 0);
        Check.man(x, "b", 0, 0, -20, 0);
        x.lot(0, 2);
        x.next(3);
        x.birth(0, -20, 0);
        Check.due("AS OF the DAY ahead", x.state(0, 0, 2), 0);
        Check.due("AS OF its DAY", x.state(0, 0, 3), 5);
        Check.due("no BROTHERS of one not there", x.brothers(0, 2), -1);
        Check.due("he is no BROTHER", x.brothers(1, 2), 0);
        Check.due("now he is", x.brothers(1, 3), 1);
        Check.due("now he has one", x.brothers(0, 3), 1);
    }

    private static void ages() {
        Check.sentence("the whole YEARS from the beginning of the week of BIRTH to that of the DAY's week (52 weeks each, below 0: 0)");
        LotOffice x = new LotOffice();
        int m = Check.man(x, "a", 0, 0, 5, 10);
        int birth = (5 * 52 + 10) * 7;
        Check.due("long ahead of BIRTH", x.age(m, 0, 0), 0);
        Check.due("on the DAY ahead of BIRTH", x.age(m, birth - 1, 0), 0);
        Check.due("on the first DAY", x.age(m, birth, 0), 0);
        Check.due("on the last DAY below 1", x.age(m, birth + 363, 0), 0);
        Check.due("on the first DAY with 1", x.age(m, birth + 364, 0), 1);
        Check.due("on the last DAY with 1", x.age(m, birth + 727, 0), 1);
        Check.due("on the first DAY with 2", x.age(m, birth + 728, 0), 2);
        x.birth(m, 7, 10);
        Check.due("just below -1 YEAR", x.age(m, birth + 358, 0), 0);
        Check.due("-1 YEAR", x.age(m, birth + 364, 0), 0);
    }

    private static void brothers() {
        Check.sentence("BROTHERS: other men (no mere NAMES, that are there) of one FATHER");
        LotOffice x = new LotOffice();
        for (int m = 0; m < 60; m++) {
            Check.man(x, "a", m % 8, 59);
            x.birth(m, -20, 0);
        }
        Check.due("the most there can be", x.brothers(0, 0), 59);
        Check.due("of the last one, too", x.brothers(59, 0), 59);
        x.same(0, 59);
        Check.due("one mere NAME less", x.brothers(0, 0), 58);
        Check.due("of the mere NAME", x.brothers(59, 0), -1);
        LotOffice y = new LotOffice();
        Check.man(y, "a", 0, 0, -20, 0);
        Check.man(y, "a", 0, 1, -20, 0);
        Check.due("the fewest there can be", y.brothers(0, 0), 0);
        Check.due("of man 2", y.brothers(2, 0), -1);
        Check.due("of man -1", y.brothers(-1, 0), -1);
    }
}
