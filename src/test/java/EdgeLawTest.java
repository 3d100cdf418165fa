/** The edges that the document's part 2, THE LAW, names, sentence by sentence. */
public final class EdgeLawTest {
    private static final String[] ASKS = {"age", "trade", "children", "height", "grade", "brothers", "serving", "parish"};
    /** Eleven ONES within one another, to be told of another one. */
    private static final String ELEVEN_NOTS = "not ".repeat(11);
    /** Sixty ONES: five times eleven nots and one that asks. */
    private static final String SIXTY_ONES = (ELEVEN_NOTS + "sole or ").repeat(4) + ELEVEN_NOTS + "sole";

    public static void main(String[] args) {
        lengthOfATextTaken();
        lengthOfATextRefused();
        eightLaws();
        fromADayOn();
        theLatestDayNotBehind();
        theLastDayOfAll();
        ofLikeDaysTheLastTold();
        withoutAnyTheEmptyText();
        blanks();
        lettersOfWords();
        digitsOfNumbers();
        signs();
        tokensGoOn();
        twentyLines();
        agesOfALaw();
        whoIsOfAge();
        daysOfLater();
        numbersOfClasses();
        sendsAndNots();
        daysOfAnAppeal();
        howLateAnAppealMayBe();
        onceEach();
        condsThatCanCome();
        condsThatCannot();
        signsAreAsked();
        twentyLinesAreAsked();
        aFaultTellsNone();
        sixtyOnes();
        sixtyOnesInEachText();
        sixtyOnesInLines();
        sixtyOnesAreAsked();
        twelveWithin();
        withinEndsBehindThem();
        firstFaultAlongTheText();
        theLeastFaultOfOneToken();
        theEnd();
        threeHundredIfThereAreMore();
        tokensReadWhole();
        numbersBehindASign();
        askedOnTheLotsDay();
        soleAndBrothers();
        servingInLesserLots();
        servingOfSixtyBrothers();
        theFirstLineThatHolds();
        withoutALine();
        Check.close();
    }

    /** The text is told: how many LINES, no FAULT, an empty tape, one law more. */
    private static void lines(String text, int lines) {
        LotOffice x = new LotOffice();
        Check.due("law '" + text + "'", Check.law(x, text, 0), lines);
        Check.due("fault of '" + text + "'", x.fault(), 0);
        Check.due("laws by '" + text + "'", x.count(3), 1);
        Check.due("tape behind '" + text + "'", x.count(9), 0);
    }

    /** The text has a FAULT of a kind where the rest begins: it is not told, the tape is empty. */
    private static void fault(String ahead, String rest, int kind) {
        LotOffice x = new LotOffice();
        String text = ahead + rest;
        Check.due("law '" + text + "'", Check.law(x, text, 0), -1 - ahead.length());
        Check.due("fault of '" + text + "'", x.fault(), kind);
        Check.due("laws by '" + text + "'", x.count(3), 0);
        Check.due("tape behind '" + text + "'", x.count(9), 0);
    }

    private static String blanks(int n) {
        return " ".repeat(n);
    }

    private static void lengthOfATextTaken() {
        Check.sentence("texts of at most 300 bytes");
        lines("", 0);
        lines(" ", 0);
        lines("\n", 0);
        lines(blanks(299), 0);
        lines(blanks(300), 0);
        lines("free;" + blanks(295), 1);
        lines(blanks(295) + "free;", 1);
        lines("class      0 ; ".repeat(20), 20);
        lines("free if height=0;" + blanks(266) + "free if height=0;", 2);
    }

    private static void lengthOfATextRefused() {
        fault(blanks(300), " ", 1);
        fault(blanks(300), "\n", 1);
        fault(blanks(300), blanks(40), 1);
        fault("free;" + blanks(295), " ", 1);
        fault("class      0 ; ".repeat(20), " ", 1);
        fault("class      0 ; ".repeat(20), "class 0;", 1);
        fault(blanks(295) + "free;", ";", 1);
        fault("free;".repeat(20) + blanks(200), " ", 1);
    }

    private static void eightLaws() {
        Check.sentence("8 at most");
        LotOffice x = new LotOffice();
        Check.due("none", x.count(3), 0);
        for (int i = 0; i < 8; i++) {
            Check.due("a FAULT takes no place", Check.law(x, "fre;", 0), -1);
            Check.due("no such DAY takes none", Check.law(x, "free;", -1), -1000);
            Check.due("law " + i, Check.law(x, "free;", 3639), 1);
            Check.due("count", x.count(3), i + 1);
        }
        Check.due("a ninth", Check.law(x, "free;", 3639), -1000);
        Check.due("a ninth from TODAY", Check.law(x, "", 0), -1000);
        Check.due("eight", x.count(3), 8);
    }

    private static void fromADayOn() {
        Check.sentence("each in force from a DAY on, that is TODAY or later");
        LotOffice x = new LotOffice();
        x.next(100);
        int[] none = {99, 0, -1, 3640, Check.LEAST, Check.GREATEST};
        for (int from : none) {
            Check.due("from " + from, Check.law(x, "free;", from), -1000);
            Check.due("an empty tape", x.count(9), 0);
            Check.due("no law", x.count(3), 0);
        }
        Check.due("from TODAY", Check.law(x, "free;", 100), 1);
        Check.due("from tomorrow", Check.law(x, "free;", 101), 1);
        Check.due("from the last DAY", Check.law(x, "free;", 3639), 1);
        x.next(3539);
        Check.due("TODAY is the last DAY", Check.law(x, "free;", 3639), 1);
        Check.due("ahead of it", Check.law(x, "free;", 3638), -1000);
    }

    private static void theLatestDayNotBehind() {
        Check.sentence("on a DAY the one with the latest such DAY not behind it");
        LotOffice x = Check.office(1);
        x.lot(9, 0);
        x.lot(10, 0);
        x.lot(11, 0);
        Check.law(x, "free;", 10);
        int[] due = {4, 2, 2};
        for (int l = 0; l < 3; l++) {
            Check.due("from DAY 10, on DAY " + (9 + l), x.state(l, 0, 0), due[l]);
        }
        Check.law(x, "later 1;", 9);
        int[] now = {3, 2, 2};
        for (int l = 0; l < 3; l++) {
            Check.due("one of DAY 9 told behind it, on DAY " + (9 + l), x.state(l, 0, 0), now[l]);
        }
        Check.law(x, "class 1;", 11);
        int[] then = {3, 2, 4};
        for (int l = 0; l < 3; l++) {
            Check.due("one of DAY 11, on DAY " + (9 + l), x.state(l, 0, 0), then[l]);
        }
    }

    private static void theLastDayOfAll() {
        LotOffice x = Check.office(1);
        Check.law(x, "age 0 to 99;free;", 3639);
        Check.law(x, "age 0 to 99;later 1;", 0);
        x.lot(0, 0);
        x.lot(3638, 0);
        x.lot(3639, 0);
        Check.due("on the first DAY", x.state(0, 0, 0), 3);
        Check.due("on the last but one", x.state(1, 0, 0), 3);
        Check.due("on the last", x.state(2, 0, 0), 2);
    }

    private static void ofLikeDaysTheLastTold() {
        Check.sentence("of like ones the one told last");
        LotOffice x = Check.office(1);
        x.lot(10, 0);
        Check.law(x, "free;", 10);
        Check.law(x, "later 1;", 10);
        Check.law(x, "free;", 9);
        Check.due("told last of one DAY", x.state(0, 0, 0), 3);
        x.next(1);
        Check.law(x, "class 1;", 10);
        Check.due("told last, on a later DAY", x.state(0, 0, 1), 4);
        Check.due("AS OF the DAY ahead", x.state(0, 0, 0), 3);
        Check.due("AS OF no DAY nobody is there", x.state(0, 0, -1), 0);
    }

    private static void withoutAnyTheEmptyText() {
        Check.sentence("without any the empty text");
        LotOffice x = Check.office(2);
        x.lot(5, 1);
        Check.due("without any", x.state(0, 0, 0), 5);
        Check.due("no LINE", x.why(), -1);
        Check.law(x, "later 1;", 0);
        Check.due("a law", x.state(0, 0, 0), 3);
        Check.due("the empty text told", Check.law(x, "", 5), 0);
        Check.due("is in force like any", x.state(0, 0, 0), 5);
        Check.due("without a LINE", x.why(), -1);
        Check.law(x, "free;", 6);
        Check.due("one behind the DAY is not", x.state(0, 0, 0), 5);
    }

    private static void blanks() {
        Check.sentence("with blanks (32, 10) between them or not");
        for (int b = 0; b < 256; b++) {
            boolean goesOn = b >= 'a' && b <= 'z' || b >= '0' && b <= '9';
            if (b == 32 || b == 10) {
                lines("free" + (char) b + ";", 1);
            } else if (b == ';') {
                fault("free;", ";", 1);
            } else {
                fault(goesOn ? "" : "free", (goesOn ? "free" : "") + (char) b + ";", 1);
            }
        }
        lines("free if(sole)or(sole)and(not(sole));class 0 if age<1;class 0 if age=1;class 0 if age>1;", 4);
        lines(" \n free \n if \n ( \n sole \n ) \n ; \n ", 1);
    }

    private static void lettersOfWords() {
        Check.sentence("WORDS: small letters, 1 to 8");
        lines("free if children = 1;", 1);
        lines("free if brothers = 1;", 1);
        fault("free if ", "childrenx = 1;", 1);
        fault("free if ", "childre = 1;", 1);
        fault("free if ", "brothersbrothers = 1;", 1);
        fault("", "f;", 1);
        fault("", "abcdefgh;", 1);
        fault("", "abcdefghi;", 1);
        fault("", "Free;", 1);
        fault("", "FREE;", 1);
        fault("", "fre;", 1);
        fault("", "frees;", 1);
        fault("", "freefree;", 1);
    }

    private static void digitsOfNumbers() {
        Check.sentence("NUMBERS: 1 to 4 digits");
        lines("class 8;", 1);
        lines("class 08;class 008;class 0008;", 3);
        fault("class ", "00008;", 1);
        fault("class ", "00000008;", 1);
        fault("class ", "0009;", 2);
        fault("class ", "9999;", 2);
        fault("class ", "10000;", 1);
        fault("class ", "4294967296;", 1);
        fault("class ", "-1;", 1);
        fault("class ", "/;", 1);
        fault("class ", ":;", 1);
        lines("free if age = 0;free if age = 0000;free if age = 9999;", 3);
        fault("free if age = ", "00000;", 1);
        fault("free if age = ", "10000;", 1);
        fault("", "1;", 1);
    }

    private static void signs() {
        Check.sentence("; ( ) < = >");
        String others = "!\"#$%&'*+,-./:?@[\\]^_`{|}~";
        for (int i = 0; i < others.length(); i++) {
            fault("free if age ", others.charAt(i) + " 5;", 1);
            fault("free if sole", others.charAt(i) + ";", 1);
        }
        fault("free if age <", "= 5;", 1);
        fault("free if age =", "= 5;", 1);
        fault("free if age <", "> 5;", 1);
        fault("free if age ", "; 5;", 1);
        fault("free if age ", "( 5;", 1);
        fault("free if age ", ") 5;", 1);
    }

    private static void tokensGoOn() {
        Check.sentence("A WORD, NUMBER goes on as long as small letters and digits do; what is not as told is no TOKEN");
        fault("", "free1;", 1);
        fault("", "1free;", 1);
        fault("class ", "1a;", 1);
        fault("class ", "a1;", 1);
        fault("age ", "20to 25;", 1);
        fault("age 20 ", "to25;", 1);
        fault("", "age20 to 25;", 1);
        fault("free if age<", "30and sole;", 1);
        fault("free if ", "soleor sole;", 1);
        lines("age 20 to 25;class 1;", 2);
        fault("", "a".repeat(300), 1);
        fault("class ", "1".repeat(294), 1);
        fault("class ", "1".repeat(334), 1);
    }

    private static void twentyLines() {
        Check.sentence("TEXT: { LINE }, 20 at most");
        String nineteen = "send;".repeat(19);
        lines("send;", 1);
        lines(nineteen, 19);
        lines(nineteen + "age 0 to 99;", 20);
        lines(nineteen + "appeal 0;", 20);
        fault(nineteen + "send;", "send;", 3);
        fault(nineteen + "send;", "age 0 to 99;", 3);
        fault(nineteen + "send;", "send", 3);
        fault(nineteen + "age 0 to 99;", "age 0 to 99;", 3);
        fault(nineteen + "send;", "to;", 1);
        fault(nineteen + "send;", "7;", 1);
        fault(nineteen + "send;", ";", 1);
        fault(nineteen + "send;", "sendsends;", 1);
        fault(nineteen + "send;\n ", "free if", 3);
        fault(nineteen + "class ", "9;free;", 2);
    }

    private static void twentyLinesAreAsked() {
        LotOffice x = Check.office(4);
        x.lot(0, 2);
        Check.law(x, "send;".repeat(20), 0);
        Check.due("no LINE of the kinds that are asked", x.state(0, 0, 0), 5);
        Check.due("no LINE", x.why(), -1);
        Check.due("by the first of twenty", x.send(0, 0, 3), true);
        Check.law(x, "free;".repeat(20), 0);
        Check.due("free by the first of twenty", x.state(0, 0, 0), 2);
        Check.due("which is 0", x.why(), 0);
        Check.law(x, "free if hides;".repeat(20), 0);
        Check.due("by none of twenty", x.state(0, 0, 0), 5);
        Check.due("no LINE", x.why(), -1);
        Check.due("everybody may send", x.send(0, 1, 2), true);
    }

    private static void aFaultTellsNone() {
        Check.sentence("-1 - the place of a FAULT: none is told");
        String[] faulty = {"free;fre;", "later 1;fre;", "class 1;fre;", "send not;fre;", "age 0 to 0;fre;", "age 99 to 99;fre;",
            "age 100 to 100;", "age 22 to 21;", "appeal 0;fre;", "appeal 1000;",
            "send;free;later 1;class 1;send not;fre;", "free if serving = 0 or sole;fre;", "send;".repeat(19) + "free;free;"};
        String[] told = {"", "send;", "free if hides;"};
        for (String fault : faulty) {
            for (String text : told) {
                LotOffice x = Check.office(3);
                x.lot(0, 1);
                Check.due("a FAULT", Check.law(x, fault, 0) < 0, true);
                isAsWithoutALine(x, "behind '" + fault + "'");
                Check.law(x, text, 0);
                Check.due("one law", x.count(3), 1);
                isAsWithoutALine(x, "behind '" + fault + "' and '" + text + "'");
                Check.due("may send", x.send(0, 0, 2), true);
                x.next(30);
                Check.due("an APPEAL on the last DAY", x.appeal(0, 0), 0);
            }
        }
    }

    private static void isAsWithoutALine(LotOffice x, String what) {
        for (int m = 0; m < 3; m++) {
            Check.due(what + ": STATE of " + m, x.state(0, m, 0), m == 0 ? 5 : 4);
            Check.due(what + ": LINE of " + m, x.why(), -1);
        }
    }

    private static void agesOfALaw() {
        Check.sentence("'age' NUMBER 'to' NUMBER ; (0 to 99, the second not less)");
        lines("age 0 to 0;", 1);
        lines("age 0 to 99;", 1);
        lines("age 99 to 99;", 1);
        lines("age 98 to 99;", 1);
        fault("age ", "100 to 100;", 2);
        fault("age ", "100 to 5;", 2);
        fault("age 99 to ", "100;", 2);
        fault("age 0 to ", "9999;", 2);
        fault("age 99 to ", "98;", 2);
        fault("age 1 to ", "0;", 2);
        fault("age 0 ", "99;", 1);
        fault("age 0 to", ";", 1);
        fault("age 0", ";", 1);
        fault("age ", ";", 1);
        fault("age ", "to 99;", 1);
        fault("age 0 ", "free 99;", 1);
        fault("age 0 to 99", "", 1);
        fault("age 0 to 99 ", "if sole;", 1);
        fault("age 0 to 99 ", "99;", 1);
    }

    /** Which of AGES 0 to 69 are of 'age'; by no law at all, if there is no text. */
    private static void areOfAge(String text, int from, int to) {
        for (int half = 0; half < 2; half++) {
            LotOffice x = new LotOffice();
            for (int i = 0; i < 35; i++) {
                Check.man(x, "a", 0, 0, half * 35 + i - 60, 0);
            }
            int day = 9 * 364;
            if (text != null) {
                Check.law(x, text, 0);
            }
            x.lot(day, 60);
            for (int m = 0; m < 35; m++) {
                int age = 69 - half * 35 - m;
                Check.due("AGE " + age + " by '" + text + "'", x.state(0, m, 0), age >= from && age <= to ? 5 : 1);
            }
        }
    }

    private static void whoIsOfAge() {
        Check.sentence("(0 to 99, the second not less; 20 to 25 without it)");
        areOfAge(null, 20, 25);
        areOfAge("", 20, 25);
        areOfAge("class 1;", 20, 25);
        areOfAge("age 0 to 99;", 0, 69);
        areOfAge("age 0 to 0;", 0, 0);
        areOfAge("age 69 to 69;", 69, 69);
        areOfAge("age 1 to 68;", 1, 68);
        areOfAge("age 70 to 99;", 70, 99);
    }

    private static void daysOfLater() {
        Check.sentence("'later' NUMBER [ 'if' COND ] ; (DAYS, 1 to 3000)");
        lines("later 1;later 3000;later 0001;later 3000 if sole;", 4);
        fault("later ", "0;", 2);
        fault("later ", "0000;", 2);
        fault("later ", "3001;", 2);
        fault("later ", "9999;", 2);
        fault("later ", "0 if sole;", 2);
        fault("later ", "if sole;", 1);
        fault("later ", ";", 1);
        fault("later", "", 1);
        fault("later 1 ", "1;", 1);
        fault("later 1", "", 1);
    }

    private static void numbersOfClasses() {
        Check.sentence("'class' NUMBER [ 'if' COND ] ; (0 to 8); without any class 9");
        lines("class 0;class 8;class 0 if sole;", 3);
        fault("class ", "9;", 2);
        fault("class ", "10;", 2);
        fault("class ", "if sole;", 1);
        fault("class ", ";", 1);
        fault("class", "", 1);
        fault("class 8", "", 1);
        LotOffice x = new LotOffice();
        Check.man(x, "a", 0, 0, -21, 0);
        Check.man(x, "b", 0, 0, -21, 1);
        Check.man(x, "c", 0, 0, -21, 2);
        x.fact(1, 0, 8, 0, 0);
        x.fact(2, 0, 1, 0, 0);
        Check.law(x, "class 8 if trade = 8;class 0 if trade = 1;", 0);
        x.lot(0, 0);
        Check.due("class 0 is the first", x.place(0, 2, 0), 0);
        Check.due("class 8 is ahead of none", x.place(0, 1, 0), 1);
        Check.due("none is the last", x.place(0, 0, 0), 2);
    }

    private static void sendsAndNots() {
        Check.sentence("'send' [ 'not' ] [ 'if' COND ] ;");
        lines("send;send not;send if sole;send not if sole;send if not sole;send not if not sole;", 6);
        fault("send not ", "not;", 1);
        fault("send ", "1;", 1);
        fault("send ", "sole;", 1);
        fault("send not ", "sole;", 1);
        fault("send not if", ";", 1);
        fault("send if", ";", 1);
        fault("send", "", 1);
        fault("send not", "", 1);
        Check.sentence("'free' [ 'if' COND ] ;");
        fault("free ", "sole;", 1);
        fault("free ", "0;", 1);
        fault("free ", "not;", 1);
        fault("free if", ";", 1);
        fault("free", "", 1);
        fault("free if sole", "", 1);
    }

    private static void daysOfAnAppeal() {
        Check.sentence("'appeal' NUMBER ; (DAYS, 0 to 999)");
        lines("appeal 0;", 1);
        lines("appeal 999;", 1);
        lines("appeal 0999;", 1);
        fault("appeal ", "1000;", 2);
        fault("appeal ", "9999;", 2);
        fault("appeal ", "01000;", 1);
        fault("appeal ", ";", 1);
        fault("appeal ", "if sole;", 1);
        fault("appeal 1 ", "if sole;", 1);
        fault("appeal", "", 1);
        fault("appeal 1", "", 1);
    }

    /** An APPEAL can be told so many DAYS behind the LOT's DAY and not a DAY later; by no law at all, if there is no text. */
    private static void mayAppeal(String text, int days) {
        LotOffice x = Check.office(2);
        if (text != null) {
            Check.law(x, text, 7);
        }
        x.lot(7, 1);
        x.next(6);
        Check.due("ahead of the LOT's DAY by '" + text + "'", x.appeal(0, 0), -1);
        x.next(1 + days);
        Check.due(days + " DAYS behind by '" + text + "'", x.appeal(0, 0), 0);
        x.next(1);
        Check.due(days + 1 + " DAYS behind by '" + text + "'", x.appeal(0, 0), -1);
        Check.due("one was told", x.count(7), 1);
    }

    private static void howLateAnAppealMayBe() {
        Check.sentence("'appeal' NUMBER ; (DAYS, 0 to 999; 30 without it)");
        mayAppeal(null, 30);
        mayAppeal("", 30);
        mayAppeal("class 1;", 30);
        mayAppeal("appeal 0;", 0);
        mayAppeal("appeal 1;", 1);
        mayAppeal("appeal 30;", 30);
        mayAppeal("appeal 999;", 999);
    }

    private static void onceEach() {
        Check.sentence("age and appeal once each; 3 age, appeal told twice (at its WORD)");
        lines("age 1 to 2;appeal 1;", 2);
        lines("appeal 1;free;age 1 to 2;", 3);
        lines("free;free;later 1;later 1;class 1;class 1;send;send;", 8);
        fault("age 1 to 2;", "age 1 to 2;", 3);
        fault("age 1 to 2;", "age", 3);
        fault("appeal 1;", "appeal 1;", 3);
        fault("appeal 1;age 1 to 2;free;", "appeal 5000;", 3);
        fault("age 1 to 2;appeal 1;", "age 9;", 3);
        fault("age ", "age 1 to 2;", 1);
        fault("age 1 to 2 ", "age 1 to 2;", 1);
    }

    private static void condsThatCanCome() {
        Check.sentence("COND: ALL { 'or' ALL }. ALL: ONE { 'and' ONE }");
        lines("free if sole;", 1);
        lines("free if sole or sole;", 1);
        lines("free if sole and sole;", 1);
        lines("free if sole or sole and sole or sole and sole and sole;", 1);
        lines("free if (sole or sole)and(sole or sole);", 1);
        lines("free if not(sole or not sole)and not not sole;", 1);
        lines("free if married and school and hides and sole;", 1);
        for (String word : ASKS) {
            lines("free if " + word + "<1 or " + word + "=1 or " + word + ">1;", 1);
        }
    }

    private static void condsThatCannot() {
        fault("free if ", "or sole;", 1);
        fault("free if ", "and sole;", 1);
        fault("free if sole or", ";", 1);
        fault("free if sole and", ";", 1);
        fault("free if sole or ", "and sole;", 1);
        fault("free if sole ", "sole;", 1);
        fault("free if sole ", "not sole;", 1);
        fault("free if sole", "(sole);", 1);
        fault("free if (", ");", 1);
        fault("free if (sole", ";", 1);
        fault("free if sole", ");", 1);
        fault("free if ((sole)", ";", 1);
        fault("free if not", ";", 1);
        fault("free if not ", "or sole;", 1);
        fault("free if ", "= 1;", 1);
        fault("free if ", "1;", 1);
        fault("free if sole ", "= 1;", 1);
        for (String word : ASKS) {
            fault("free if " + word, ";", 1);
            fault("free if " + word + " ", "1;", 1);
            fault("free if " + word + " <", ";", 1);
            fault("free if " + word + " < ", word + ";", 1);
        }
    }

    /** Whether the only man, of AGE 21 and PARISH 3, with trade 4, is free by the COND. */
    private static void holds(String cond, boolean due) {
        LotOffice x = new LotOffice();
        Check.man(x, "a", 3, 0, -21, 0);
        Check.man(x, "b", 3, 0, -1, 0);
        x.fact(0, 0, 4, 0, 0);
        x.fact(0, 1, 9, 0, 0);
        x.fact(0, 5, 250, 0, 0);
        x.exam(0, 0, 5);
        x.lot(0, 0);
        Check.due("law of " + cond, Check.law(x, "free if " + cond + ";", 0), 1);
        Check.due(cond, x.state(0, 0, 0) == 2, due);
    }

    private static void signsAreAsked() {
        Check.sentence("SIGN: < = >");
        int[] is = {21, 4, 9, 250, 5, 1, 0, 3};
        for (int i = 0; i < ASKS.length; i++) {
            for (int than = Math.max(0, is[i] - 1); than <= is[i] + 1; than++) {
                holds(ASKS[i] + "<" + than, is[i] < than);
                holds(ASKS[i] + "=" + than, is[i] == than);
                holds(ASKS[i] + ">" + than, is[i] > than);
            }
            holds(ASKS[i] + "<0", false);
            holds(ASKS[i] + "<9999", true);
            holds(ASKS[i] + "=9999", false);
            holds(ASKS[i] + ">9999", false);
        }
    }

    private static void sixtyOnes() {
        Check.sentence("No more than 60 ONES in a text; 4 a 61st ONE (at its first TOKEN)");
        String ahead = "free if " + SIXTY_ONES;
        lines(ahead + ";", 1);
        fault(ahead + " or ", "sole;", 4);
        fault(ahead + " and ", "sole;", 4);
        fault(ahead + " or ", "not sole;", 4);
        fault(ahead + " or ", "(sole);", 4);
        fault(ahead + " or ", "age<1;", 4);
        fault(ahead + " or ", "age", 4);
        fault(ahead + " or ", ";", 1);
        fault(ahead + " or ", "or", 1);
        fault(ahead + " or", "", 1);
        fault(ahead + ";send if ", "sole;", 4);
        fault(ahead + ";send if ", "class;", 1);
        lines(ahead + ";send not;class 1;", 3);
    }

    private static void sixtyOnesInEachText() {
        Check.sentence("No more than 60 ONES in a text");
        LotOffice x = Check.office(1);
        x.lot(0, 0);
        String even = "not ".repeat(10) + "hides";
        String odd = ELEVEN_NOTS + "hides";
        String ahead = "free if " + (even + " or ").repeat(4);
        for (int i = 0; i < 4; i++) {
            for (int k = 0; k < 3; k++) {
                Check.due("a 61st behind sixty, " + i, Check.law(x, "free if " + SIXTY_ONES + " or sole;", 0) < 0, true);
                Check.due("its FAULT", x.fault(), 4);
            }
            Check.due("sixty in one text, " + i, Check.law(x, ahead + odd + " and not not not sole;", 0), 1);
            Check.due("by all of them free, if any says so", x.state(0, 0, 0), 4);
            Check.due("fewer in another one, " + i, Check.law(x, ahead + odd + ";", 0), 1);
            Check.due("by the last of them free", x.state(0, 0, 0), 2);
        }
    }

    private static void sixtyOnesInLines() {
        String half = ELEVEN_NOTS + "sole or " + ELEVEN_NOTS + "sole or not not not not not sole;";
        String ahead = "free if " + half + "send if " + half;
        lines(ahead, 2);
        fault(ahead + "class 1 if ", "sole;", 4);
        fault(ahead + "class 1 if ", "(sole);", 4);
        String brackets = "(((((((((((hides)))))))))))";
        String more = "free if " + brackets + " or " + brackets + " or " + brackets + " or " + brackets + ";";
        lines(more + "later 1 if " + brackets + ";", 2);
        fault(more + "later 1 if " + brackets + " and ", "sole;", 4);
        lines("free;".repeat(4) + more + "free if " + brackets + ";", 6);
    }

    private static void sixtyOnesAreAsked() {
        Check.sentence("No more than 60 ONES in a text");
        String odd = ELEVEN_NOTS + "hides";
        String even = "not ".repeat(10) + "hides";
        holds(odd + " and " + odd + " and " + odd + " and " + odd + " and " + odd, true);
        holds(odd + " and " + odd + " and " + odd + " and " + odd + " and " + even, false);
        holds(even + " or " + even + " or " + even + " or " + even + " or " + odd, true);
        holds(even + " or " + even + " or " + even + " or " + even + " or " + even, false);
        holds(odd + " or " + even + " or " + even + " or " + even + " or " + even, true);
        holds(even + " and " + odd + " and " + odd + " and " + odd + " and " + odd, false);
        holds(even + " and " + odd + " or " + odd + " and " + odd + " or " + even, true);
    }

    private static void twelveWithin() {
        Check.sentence("no more than 12 within one another; 4 a thirteenth within (at its first TOKEN)");
        String nots = "free if " + "not ".repeat(12);
        lines("free if " + "not ".repeat(11) + "sole;", 1);
        fault(nots, "sole;", 4);
        fault(nots, "not sole;", 4);
        fault(nots, "(sole);", 4);
        fault(nots, "age", 4);
        fault(nots, "age < 5000;", 4);
        fault(nots, ";", 1);
        fault(nots, ")", 1);
        fault(nots, "", 1);
        String brackets = "free if " + "(".repeat(12);
        lines("free if " + "(".repeat(11) + "sole" + ")".repeat(11) + ";", 1);
        fault(brackets, "sole" + ")".repeat(12) + ";", 4);
        fault(brackets, "(sole", 4);
        fault(brackets, "not sole", 4);
        fault(brackets, "and", 1);
        String both = "free if " + "not(".repeat(6);
        lines("free if " + "not(".repeat(5) + "not sole" + ")".repeat(5) + ";", 1);
        fault(both, "sole" + ")".repeat(6) + ";", 4);
    }

    private static void withinEndsBehindThem() {
        Check.sentence("no more than 12 within one another");
        String most = "(".repeat(11) + "sole" + ")".repeat(11);
        lines("free if " + most + " or " + most + ";send if " + most + ";", 2);
        lines("free if " + ELEVEN_NOTS + "sole and " + ELEVEN_NOTS + "sole;", 1);
        lines("free if " + "(".repeat(11) + "sole or sole and sole" + ")".repeat(11) + ";", 1);
        fault("free if " + "(".repeat(11) + "sole or (", "sole)" + ")".repeat(11) + ";", 4);
        lines("free if " + "(".repeat(10) + "(sole)or(sole)" + ")".repeat(10) + ";", 1);
        holdsDeep("(".repeat(11) + "hides" + ")".repeat(11), false);
        holdsDeep("(".repeat(11) + "sole" + ")".repeat(11), true);
        holdsDeep(ELEVEN_NOTS + "hides", true);
    }

    /** Whether one without BROTHERS who does not hide is free by the COND. */
    private static void holdsDeep(String cond, boolean due) {
        LotOffice x = Check.office(1);
        x.lot(0, 0);
        Check.due("law of " + cond, Check.law(x, "free if " + cond + ";", 0), 1);
        Check.due(cond, x.state(0, 0, 0) == 2, due);
    }

    private static void firstFaultAlongTheText() {
        Check.sentence("FAULTS, the first along the text");
        fault("age 20 ", "25;class 9;", 1);
        fault("class ", "9 fre;", 2);
        fault("class ", "9 if soles;", 2);
        fault("age ", "100 to 5;age", 2);
        fault("age 1 to 2;", "age 100;", 3);
        fault("free if " + "not ".repeat(12), "sole soles;class 9;", 4);
        fault("free;", "fre;" + "free;".repeat(20), 1);
        fault("", "?" + blanks(320), 1);
    }

    private static void theLeastFaultOfOneToken() {
        Check.sentence("of one TOKEN the least");
        fault("free;".repeat(20), "fre;", 1);
        fault("free;".repeat(20), "123;", 1);
        fault("free;".repeat(20), "?", 1);
        fault("free if " + SIXTY_ONES + " or ", "sol;", 1);
        fault("free if " + SIXTY_ONES + " or ", "?", 1);
        fault("free if " + "(".repeat(12), "sol", 1);
        fault("age ", "12345 to 99;", 1);
        fault("later ", "0x;", 1);
        fault("free if " + (ELEVEN_NOTS + "sole or ").repeat(4) + "not ".repeat(12), "sole;", 4);
    }

    private static void theEnd() {
        Check.sentence("1 no TOKEN, or one that can't come (at it; the end: how many bytes there are)");
        fault("free", "", 1);
        fault("free ", "", 1);
        fault("free\n\n", "", 1);
        fault("free if (sole", "", 1);
        fault("free if not", "", 1);
        fault("free if age <", "", 1);
        fault("free if age < 5", "", 1);
        fault("free;send", "", 1);
        fault("age 20 to", "", 1);
        fault("free" + blanks(295), "", 1);
        fault("free" + blanks(296), "", 1);
        fault(blanks(296) + "free", "", 1);
    }

    private static void threeHundredIfThereAreMore() {
        Check.sentence("300, if there are more and no FAULT is ahead");
        fault("free" + blanks(296), " ", 1);
        fault("free" + blanks(296), ";", 1);
        fault("free" + blanks(296), "%", 1);
        fault(blanks(296) + "free", ";", 1);
        fault(blanks(295) + "free;", "free;", 1);
        fault(blanks(300), "free", 1);
        fault("free" + blanks(296), blanks(40), 1);
        fault(blanks(299), "%" + blanks(40), 1);
        fault(blanks(299), ";" + blanks(40), 1);
        fault("send;".repeat(20) + blanks(199), "send;", 3);
        fault("send;".repeat(20) + blanks(200), "send;", 1);
    }

    private static void tokensReadWhole() {
        Check.sentence("TOKENS that begin ahead of it are read whole");
        fault(blanks(299), "frees;", 1);
        fault(blanks(299) + "f", "ree;", 1);
        fault(blanks(299), "f" + "r".repeat(39), 1);
        fault(blanks(297) + "age", " 1 to 2;", 1);
        fault(blanks(293) + "class ", "9;", 2);
        fault(blanks(293) + "class ", "10;", 2);
        fault(blanks(293) + "class 8", ";", 1);
        fault(blanks(293) + "class ", "8a;", 1);
        fault(blanks(293) + "class ", "00008;", 1);
        fault(blanks(293) + "class 0", "008;", 1);
        fault("age 20" + blanks(290) + "to ", "100;", 2);
        fault("age 20" + blanks(290) + "to ", "19;", 2);
        fault("age 20" + blanks(290) + "to 2", "5;", 1);
    }

    private static void numbersBehindASign() {
        Check.sentence("2 a NUMBER that is not as told (at it; one behind a SIGN may be any)");
        lines("free if age = 9999;", 1);
        lines("free if parish > 9999;", 1);
        lines("free if trade < 0;", 1);
        lines("free if grade = 10;", 1);
        lines("free if height = 251;", 1);
        lines("free if brothers > 60 and serving > 60;", 1);
        holds("age < 9999 and parish < 8 and grade < 10", true);
        holds("trade < 0", false);
    }

    private static void askedOnTheLotsDay() {
        Check.sentence("Asked of a man for a LOT, on its DAY: AGE, FACTS, GRADE");
        LotOffice x = new LotOffice();
        Check.man(x, "a", 0, 0, -20, 1);
        Check.law(x, "age 0 to 99;free if age = 20 and hides and grade = 7;", 0);
        x.lot(6, 0);
        x.lot(7, 0);
        x.lot(370, 0);
        x.lot(371, 0);
        x.fact(0, 4, 1, 7, 370);
        x.exam(0, 0, 7);
        int[] due = {4, 2, 2, 4};
        for (int l = 0; l < 4; l++) {
            Check.due("LOT " + l, x.state(l, 0, 0), due[l]);
        }
        x.next(8);
        x.exam(0, 0, 6);
        int[] now = {4, 2, 4, 4};
        for (int l = 0; l < 4; l++) {
            Check.due("with an EXAM on DAY 8, LOT " + l, x.state(l, 0, 8), now[l]);
        }
    }

    private static void soleAndBrothers() {
        Check.sentence("sole: no BROTHERS; brothers: how many");
        LotOffice x = new LotOffice();
        Check.law(x, "free if sole;later 1 if brothers = 1;class 1 if brothers = 2;", 0);
        for (int m = 0; m < 3; m++) {
            Check.man(x, "a", m, 7);
        }
        x.lot(0, 3);
        x.birth(0, -21, 0);
        Check.due("no BROTHERS", x.state(0, 0, 0), 2);
        x.birth(1, 9, 0);
        Check.due("one", x.state(0, 0, 0), 3);
        x.birth(2, -60, 0);
        Check.due("two", x.state(0, 0, 0), 5);
        Check.due("by a class", x.why(), 2);
        x.same(1, 2);
        Check.due("one again", x.state(0, 0, 0), 3);
    }

    private static void servingInLesserLots() {
        Check.sentence("serving: how many of these SERVE in LOTS with lesser numbers");
        LotOffice x = new LotOffice();
        for (int m = 0; m < 5; m++) {
            Check.man(x, "a", 0, 7, -21, m);
        }
        Check.law(x, "class 0 if serving = 0;class 1 if serving = 1;class 2 if serving = 2;class 3 if serving = 3;"
            + "class 4 if serving > 3;", 0);
        for (int l = 0; l < 4; l++) {
            x.lot(0, 1);
        }
        int[][] due = {{0, 0, 0, 0, 0}, {0, 1, 1, 1, 1}, {0, 1, 1, 1, 1}, {0, 1, 1, 1, 1}};
        isServing(x, "the first SERVES in each LOT", due);
        Check.due("0 SENT 1 in LOT 0", x.send(0, 0, 1), true);
        Check.due("so that 1 is CALLED in LOT 1, and SENT 2", x.send(1, 1, 2), true);
        Check.due("so that 1 is CALLED in LOT 2, and SENT 3", x.send(2, 1, 3), true);
        int[][] now = {{0, 0, 0, 0, 0}, {1, 0, 1, 1, 1}, {2, 1, 1, 2, 2}, {3, 2, 2, 2, 3}};
        isServing(x, "others SERVE in them", now);
    }

    /** 59 of sixty BROTHERS SERVE in LOT 0: for each of them 58 others do, for the last one 59. */
    private static void servingOfSixtyBrothers() {
        LotOffice x = new LotOffice();
        for (int m = 0; m < 60; m++) {
            Check.man(x, "a", 0, 59, -21, 0);
        }
        Check.law(x, "class 0 if serving = 59;class 1 if serving = 58;class 2 if serving > 0;class 3;", 0);
        x.lot(0, 59);
        x.lot(0, 1);
        int[] men = {0, 58, 59};
        int[] due = {1, 1, 0};
        for (int i = 0; i < 3; i++) {
            x.state(1, men[i], 0);
            Check.due("serving of " + men[i], x.why(), due[i]);
            x.state(0, men[i], 0);
            Check.due("in the first LOT of " + men[i], x.why(), 3);
        }
    }

    private static void isServing(LotOffice x, String what, int[][] due) {
        for (int l = 0; l < 4; l++) {
            for (int m = 0; m < 5; m++) {
                x.state(l, m, 0);
                Check.due(what + ", serving of " + m + " for LOT " + l, x.why(), due[l][m]);
            }
        }
    }

    private static void theFirstLineThatHolds() {
        Check.sentence("The first LINE of a kind whose COND holds, or that has none, tells");
        LotOffice x = Check.office(1);
        x.lot(0, 1);
        Check.law(x, "send;".repeat(19) + "free;", 0);
        Check.due("free by the last LINE of all", x.state(0, 0, 0), 2);
        Check.due("which is 19", x.why(), 19);
        Check.law(x, "free;" + "send;".repeat(19), 0);
        Check.due("free by the first LINE of all", x.state(0, 0, 0), 2);
        Check.due("which is 0", x.why(), 0);
        Check.law(x, "free if hides;free if not hides;free;free if not hides;", 0);
        Check.due("the first that holds", x.state(0, 0, 0), 2);
        Check.due("is 1", x.why(), 1);
        Check.law(x, "class 5;later 9;later 8;free if hides;", 0);
        Check.due("later is ahead of class", x.state(0, 0, 0), 3);
        Check.due("by the first without a COND", x.why(), 1);
        Check.law(x, "class 5 if hides;class 6;class 7;", 0);
        Check.due("class", x.state(0, 0, 0), 5);
        Check.due("by the first without a COND", x.why(), 1);
    }

    private static void withoutALine() {
        Check.sentence("without any nobody is free, or put off; class 9; everybody may send");
        LotOffice x = Check.office(4);
        x.lot(0, 2);
        Check.law(x, "free if hides;later 1 if hides;class 1 if hides;send not if hides;", 0);
        Check.due("nobody is free or put off", x.state(0, 0, 0), 5);
        Check.due("by no LINE", x.why(), -1);
        Check.due("not reached", x.state(0, 3, 0), 4);
        Check.due("by no LINE", x.why(), -1);
        Check.due("everybody may send", x.send(0, 0, 3), true);
        x.fact(1, 4, 1, 0, 0);
        Check.law(x, "send not if hides;", 0);
        Check.due("but one of whom a LINE tells so", x.send(0, 1, 2), false);
        Check.law(x, "send if hides;send not;", 0);
        Check.due("or not so", x.send(0, 1, 2), true);
    }
}
