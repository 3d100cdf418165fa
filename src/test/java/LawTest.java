/** Promises 10 and 11: THE LAW's texts, and each of their FAULTS. */
public final class LawTest {
    public static void main(String[] args) {
        linesAreCounted();
        tokens();
        wrongTokens();
        wrongNumbers();
        tooMany();
        longTexts();
        refusals();
        whichLawIsInForce();
        whatIsAsked();
        howCondsBind();
        deepConds();
        Check.close();
    }

    /** The text is a FAULT of a kind at a place. */
    private static void fault(String text, int kind, int place) {
        LotOffice x = new LotOffice();
        Check.due("law '" + text + "'", Check.law(x, text, 0), -1 - place);
        Check.due("fault of '" + text + "'", x.fault(), kind);
        Check.due("none is told by '" + text + "'", x.count(3), 0);
        Check.due("tape is empty behind '" + text + "'", x.count(9), 0);
    }

    private static void lines(String text, int lines) {
        LotOffice x = new LotOffice();
        Check.due("law '" + text + "'", Check.law(x, text, 0), lines);
        Check.due("fault of '" + text + "'", x.fault(), 0);
        Check.due("one is told by '" + text + "'", x.count(3), 1);
        Check.due("tape is empty behind '" + text + "'", x.count(9), 0);
    }

    private static String times(String text, int n) {
        return text.repeat(n);
    }

    private static void linesAreCounted() {
        lines("", 0);
        lines("  \n ", 0);
        lines("free;", 1);
        lines("age 0 to 99;", 1);
        lines("age 20 to 20;", 1);
        lines("later 1;later 3000;", 2);
        lines("class 0;class 8;", 2);
        lines("send;send not;", 2);
        lines("appeal 0;", 1);
        lines("appeal 999;", 1);
        lines("free if sole;later 5 if married;class 3 if school;send if hides;send not if hides;", 5);
        lines("class 1 if age > 20 and trade = 3 or children < 2 and height > 9999 or not grade = 0;", 1);
        lines("class 1 if brothers = 1 or serving = 1 or parish = 7;", 1);
        lines("free if (((sole)));", 1);
        lines(times("free;", 20), 20);
        lines(times("class 1;", 18) + "age 1 to 2;appeal 3;", 20);
    }

    private static void tokens() {
        lines("age\n20\nto 25;", 1);
        lines(" free\n;  ", 1);
        lines("age 020 to 0025;", 1);
        lines("free if(age<30)and(age>20);", 1);
        fault("age20 to 25;", 1, 0);
        fault("age 20to 25;", 1, 4);
        fault("age 2o to 25;", 1, 4);
        fault("free if age<30and sole;", 1, 12);
        fault("free;\t", 1, 5);
        fault("free;\r", 1, 5);
        fault("Free;", 1, 0);
        fault("free if sole, hides;", 1, 12);
        fault("free if childrens = 1;", 1, 8);
        fault("class 00001;", 1, 6);
        fault("\u00e9free;", 1, 0);
        fault("free if sole \u0000;", 1, 13);
    }

    private static void wrongTokens() {
        fault("age", 1, 3);
        fault("age ", 1, 4);
        fault("age 20 25;", 1, 7);
        fault("age 20 to;", 1, 9);
        fault("age 20 to 25", 1, 12);
        fault("age 20 to 25 if sole;", 1, 13);
        fault("appeal 5 if sole;", 1, 9);
        fault("appeal;", 1, 6);
        fault("later;", 1, 5);
        fault("later if sole;", 1, 6);
        fault("class;", 1, 5);
        fault("free 5;", 1, 5);
        fault("free not;", 1, 5);
        fault("send not not;", 1, 9);
        fault("send 1;", 1, 5);
        fault("send if not;", 1, 11);
        fault("married;", 1, 0);
        fault("to;", 1, 0);
        fault("5;", 1, 0);
        fault(";", 1, 0);
        fault("free;;", 1, 5);
        fault("free if;", 1, 7);
        fault("free if ();", 1, 9);
        fault("free if (sole;", 1, 13);
        fault("free if sole);", 1, 12);
        fault("free if sole sole;", 1, 13);
        fault("free if sole and;", 1, 16);
        fault("free if and sole;", 1, 8);
        fault("free if sole or or sole;", 1, 16);
        fault("free if grade 5;", 1, 14);
        fault("free if grade;", 1, 13);
        fault("free if grade >;", 1, 15);
        fault("free if grade > sole;", 1, 16);
        fault("free if grade <= 5;", 1, 15);
        fault("free if sole = 1;", 1, 13);
        fault("free if married > 0;", 1, 16);
        fault("free if free;", 1, 8);
        fault("free if 5 = 5;", 1, 8);
        fault("free if if sole;", 1, 8);
    }

    private static void wrongNumbers() {
        fault("age 100 to 101;", 2, 4);
        fault("age 20 to 100;", 2, 10);
        fault("age 25 to 24;", 2, 10);
        fault("later 0;", 2, 6);
        fault("later 3001;", 2, 6);
        fault("class 9;", 2, 6);
        fault("appeal 1000;", 2, 7);
        fault("class 9", 2, 6);
    }

    private static void tooMany() {
        fault("age 1 to 2;age 1 to 2;", 3, 11);
        fault("appeal 5;appeal 6;", 3, 9);
        fault("appeal 5; appeal", 3, 10);
        fault("age 1 to 2;free;age;", 3, 16);
        fault(times("free;", 20) + "free;", 3, 100);
        fault(times("free;", 20) + "fre;", 1, 100);
        fault(times("free;", 20) + ";", 1, 100);
        fault(times("free;", 20) + "sole;", 1, 100);
        lines("free if " + times("not ", 11) + "sole;", 1);
        fault("free if " + times("not ", 12) + "sole;", 4, 56);
        lines("free if " + times("(", 11) + "sole" + times(")", 11) + ";", 1);
        fault("free if " + times("(", 12) + "sole" + times(")", 12) + ";", 4, 20);
        fault("free if " + times("(", 12) + ")", 1, 20);
        fault("free if " + times("(not ", 6) + "age", 4, 38);
        fault("free if " + times("(not ", 6) + "aged", 1, 38);
        String sixty = "free if sole " + times("or(sole)", 29) + "or sole";
        lines(sixty + ";", 1);
        fault(sixty + " or sole;", 4, sixty.length() + 4);
        fault(sixty + " or (sole);", 4, sixty.length() + 4);
        fault(sixty + " or not sole;", 4, sixty.length() + 4);
        fault(sixty + " or );", 1, sixty.length() + 4);
        lines(times("free if(sole);", 15) + "send if not sole;", 16);
        onesAreCountedOverLines();
    }

    private static void onesAreCountedOverLines() {
        String thirty = "free if " + times("not ", 11) + "sole and " + times("not ", 11) + "sole and not not not not not sole;";
        lines(thirty, 1);
        String half = "free if " + times("(", 9) + "sole" + times(")", 9) + " or " + times("(", 9) + "sole" + times(")", 9);
        String text = half + ";" + half + " or not sole;send if " + times("(", 9) + "sole" + times(")", 9) + ";";
        lines(text, 3);
        String most = text + "send if not not not not not not not sole;";
        lines(most, 4);
        fault(most + "free if sole;", 4, most.length() + 8);
        fault(most + "free if class;", 1, most.length() + 8);
    }

    private static void longTexts() {
        String full = "free;" + times(" ", 295);
        lines(full, 1);
        fault(full + " ", 1, 300);
        fault(full + "free;", 1, 300);
        fault("free" + times(" ", 336), 1, 300);
        fault("free;fre;" + times(" ", 331), 1, 5);
        fault(times(" ", 299) + "frees;", 1, 299);
        fault(times(" ", 299) + "free;", 1, 300);
        fault(times(" ", 299) + "freefreefree;", 1, 299);
        fault(times(" ", 296) + "class", 1, 300);
        fault(times(" ", 293) + "class 9999;", 2, 299);
        fault(times(" ", 294) + "class 9999;", 1, 300);
        fault(times(" ", 300) + "%", 1, 300);
        fault(times(" ", 299) + "%", 1, 299);
        fault("age 20" + times(" ", 291) + "to 25;", 1, 300);
        fault("age 20" + times(" ", 290) + "to 100;", 2, 299);
        fault("age 20" + times(" ", 290) + "to 19x;", 1, 299);
        fault(times("free;", 20) + times(" ", 199) + "send;", 3, 299);
    }

    private static void refusals() {
        LotOffice x = new LotOffice();
        Check.due("fault ahead of any", x.fault(), 0);
        Check.due("a law with a FAULT", Check.law(x, "fre;", 0), -1);
        Check.due("behind the last DAY", Check.law(x, "free;", 3640), -1000);
        Check.due("the tape is empty", x.count(9), 0);
        Check.due("fault stays", x.fault(), 1);
        Check.due("below 0", Check.law(x, "free;", -1), -1000);
        Check.due("on the last DAY", Check.law(x, "free;", 3639), 1);
        Check.due("fault is gone", x.fault(), 0);
        x.next(10);
        Check.due("ahead of TODAY", Check.law(x, "free;", 9), -1000);
        Check.due("a wrong text ahead of TODAY", Check.law(x, "fre;", 9), -1000);
        Check.due("fault is still gone", x.fault(), 0);
        for (int i = 0; i < 7; i++) {
            Check.due("law " + i, Check.law(x, "class " + i + ";", 10), 1);
        }
        Check.due("eight laws", x.count(3), 8);
        Check.due("a ninth", Check.law(x, "free;", 10), -1000);
        Check.due("a ninth with a FAULT", Check.law(x, "fre;", 10), -1000);
        Check.due("the tape is empty, too", x.count(9), 0);
        Check.due("still eight", x.count(3), 8);
    }

    private static void whichLawIsInForce() {
        LotOffice x = new LotOffice();
        int m = Check.man(x, "a", 0, 0, -20, 0);
        x.lot(10, 0);
        Check.due("no law", x.state(0, m, 0), 4);
        Check.law(x, "free;", 5);
        Check.due("from DAY 5", x.state(0, m, 0), 2);
        Check.law(x, "later 1;", 3);
        Check.due("from DAY 3 is behind it", x.state(0, m, 0), 2);
        Check.law(x, "later 1;", 11);
        Check.due("from DAY 11 is too late", x.state(0, m, 0), 2);
        Check.law(x, "later 1;", 5);
        Check.due("of like DAYS the last one", x.state(0, m, 0), 3);
        x.next(2);
        Check.law(x, "class 1;", 10);
        Check.due("KNOWN from DAY 2 on", x.state(0, m, 2), 4);
        Check.due("the LINE of the new law", x.why(), 0);
        Check.due("not KNOWN on DAY 1", x.state(0, m, 1), 3);
        x.next(20);
        Check.due("laws stay told", x.state(0, m, 22), 4);
    }

    /** Whether a COND holds for a man of AGE 21, with one brother, on DAY 70. */
    private static void holds(String cond, boolean due) {
        Check.due("free if " + cond, lotOnDay70(cond).state(0, 0, 70) == 2, due);
    }

    private static LotOffice lotOnDay70(String cond) {
        LotOffice x = new LotOffice();
        Check.law(x, "age 0 to 99;free if " + cond + ";", 0);
        int m = Check.man(x, "abc", 3, 7, -21, 0);
        Check.man(x, "b", 2, 7, -10, 0);
        Check.man(x, "lost", 2, 7);
        Check.man(x, "c", 2, 8, -10, 0);
        x.fact(m, 0, 4, 0, 100);
        x.fact(m, 1, 2, 60, 70);
        x.fact(m, 1, 3, 71, 80);
        x.fact(m, 2, 1, 70, 70);
        x.fact(m, 5, 180, 0, 3639);
        x.fact(m, 5, 170, 70, 70);
        x.exam(m, 0, 6);
        x.lot(70, 1);
        x.next(70);
        x.exam(m, 1, 3);
        x.next(1);
        x.exam(m, 2, 9);
        x.fact(m, 3, 1, 69, 71);
        return x;
    }

    private static void whatIsAsked() {
        holds("age = 21", true);
        holds("age < 21", false);
        holds("age < 22", true);
        holds("age > 21", false);
        holds("age > 20", true);
        holds("trade = 4", true);
        holds("children = 2", true);
        holds("children = 3", false);
        holds("height = 170", true);
        holds("grade = 3", true);
        holds("brothers = 1", true);
        holds("brothers > 0 and brothers < 2", true);
        holds("serving = 0", true);
        holds("serving > 0", false);
        holds("parish = 3", true);
        holds("parish < 3", false);
        holds("sole", false);
        holds("not sole", true);
        holds("married", true);
        holds("school", false);
        holds("hides", false);
        holds("height < 9999", true);
    }

    private static void howCondsBind() {
        holds("married or married and hides", true);
        holds("(married or married) and hides", false);
        holds("hides and married or married", true);
        holds("hides and (married or married)", false);
        holds("not hides and hides", false);
        holds("not (hides and hides)", true);
        holds("not hides or married", true);
        holds("not (not hides or married)", false);
        holds("not not married", true);
        holds("hides or hides or married", true);
        holds("married and married and hides", false);
        holds("hides or married and not (school or sole)", true);
        holds("married and (hides or (school or (not sole and (age = 21 or sole))))", true);
        holds("married and (hides or (school or (not sole and (age = 22 or sole))))", false);
    }

    private static void deepConds() {
        StringBuilder deep = new StringBuilder();
        for (int i = 0; i < 11; i++) {
            deep.append("hides or married and(");
        }
        deep.append("sole");
        holds(deep + times(")", 11), false);
        holds(deep + times(")", 11) + " or age=21", true);
    }
}
