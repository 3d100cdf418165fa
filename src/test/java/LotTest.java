/** Promises 12 to 14 and 19 to 23: LOTS, their bowls, STATES, QUOTAS and places. */
public final class LotTest {
    public static void main(String[] args) {
        lots();
        weeksBowl();
        lettersBowl();
        statesInTheirOrder();
        ageOfTheLaw();
        orderOfThoseCalled();
        quotas();
        restsOfLikeSize();
        whatIsKnown();
        factsAndGradesOnTheDay();
        mereNames();
        serving();
        why();
        Check.close();
    }

    private static void lots() {
        LotOffice x = new LotOffice();
        Check.due("DAY -1", x.lot(-1, 0), -1);
        Check.due("DAY 3640", x.lot(3640, 0), -1);
        Check.due("WANTED -1", x.lot(0, -1), -1);
        Check.due("WANTED 61", x.lot(0, 61), -1);
        x.next(5);
        Check.due("ahead of TODAY", x.lot(4, 0), -1);
        Check.due("none", x.count(2), 0);
        Check.due("TODAY", x.lot(5, 0), 0);
        Check.due("later", x.lot(9, 60), 1);
        Check.due("ahead of the LOT ahead", x.lot(8, 1), -1);
        Check.due("on its DAY", x.lot(9, 1), 2);
        Check.due("the last DAY", x.lot(3639, 1), 3);
        Check.due("a fifth", x.lot(3639, 1), -1);
        Check.due("four", x.count(2), 4);
        Check.due("LOT 4 is none", x.called(4, 0), -1);
        Check.due("LOT -1 is none", x.called(-1, 0), -1);
        Check.due("nobody is called", x.called(3, 0), 0);
    }

    private static void weeksBowl() {
        LotOffice x = new LotOffice();
        Check.man(x, "a", 0, 0, -21, 3);
        Check.man(x, "a", 0, 1, -21, 50);
        Check.tape(x, Check.downFrom(52));
        Check.due("no such LOT", x.weeks(0), false);
        Check.due("the tape is empty", x.count(9), 0);
        x.lot(0, 1);
        Check.due("in their order without picks", x.state(0, 0, 0), 5);
        Check.tape(x, Check.upTo(51));
        Check.due("51 bytes", x.weeks(0), false);
        Check.tape(x, Check.upTo(53));
        Check.due("53 bytes", x.weeks(0), false);
        Check.due("the tape is empty again", x.count(9), 0);
        int[] twice = Check.upTo(52);
        twice[51] = 0;
        Check.tape(x, twice);
        Check.due("a week twice", x.weeks(0), false);
        int[] other = Check.upTo(52);
        other[0] = 52;
        Check.tape(x, other);
        Check.due("a week 52", x.weeks(0), false);
        other[0] = 255;
        Check.tape(x, other);
        Check.due("a week 255", x.weeks(0), false);
        Check.due("nothing told", x.state(0, 0, 0), 5);
        x.next(30);
        Check.tape(x, Check.downFrom(52));
        Check.due("told", x.weeks(0), true);
        Check.due("on whatever DAY", x.state(0, 1, 0), 5);
        Check.due("of weeks alone", x.state(0, 0, 0), 4);
        Check.tape(x, Check.upTo(52));
        Check.due("told once", x.weeks(0), false);
        Check.due("stays", x.state(0, 1, 0), 5);
        x.lot(30, 1);
        Check.due("of another LOT", x.state(1, 0, 30), 5);
        Check.tape(x, Check.downFrom(52));
        Check.due("of LOT -1", x.weeks(-1), false);
        Check.tape(x, Check.downFrom(52));
        Check.due("told for it, too", x.weeks(1), true);
        Check.due("as told", x.state(1, 0, 30), 4);
    }

    private static void lettersBowl() {
        LotOffice x = new LotOffice();
        Check.man(x, "az", 0, 0, -21, 3);
        Check.man(x, "za", 0, 1, -21, 3);
        Check.tape(x, Check.downFrom(26));
        Check.due("no such LOT", x.letters(0), false);
        Check.due("the tape is empty", x.count(9), 0);
        x.lot(0, 1);
        Check.due("in their order without picks", x.state(0, 0, 0), 5);
        Check.tape(x, Check.upTo(25));
        Check.due("25 bytes", x.letters(0), false);
        Check.tape(x, Check.upTo(27));
        Check.due("27 bytes", x.letters(0), false);
        int[] twice = Check.upTo(26);
        twice[25] = 0;
        Check.tape(x, twice);
        Check.due("a letter twice", x.letters(0), false);
        int[] other = Check.upTo(26);
        other[25] = 26;
        Check.tape(x, other);
        Check.due("a letter 26", x.letters(0), false);
        Check.tape(x, "abcdefghijklmnopqrstuvwxyz");
        Check.due("letters as letters", x.letters(0), false);
        Check.due("the tape is empty again", x.count(9), 0);
        Check.tape(x, Check.downFrom(26));
        Check.due("told", x.letters(0), true);
        Check.due("z comes first", x.state(0, 1, 0), 5);
        Check.due("a does not", x.state(0, 0, 0), 4);
        Check.tape(x, Check.upTo(26));
        Check.due("told once", x.letters(0), false);
        Check.tape(x, Check.upTo(52));
        Check.due("weeks are another bowl", x.weeks(0), true);
        Check.due("z still comes first", x.place(0, 1, 0), 0);
    }

    private static void statesInTheirOrder() {
        LotOffice x = new LotOffice();
        Check.law(x, "class 2 if hides;later 9 if school;free if married;class 3;", 0);
        int none = Check.man(x, "a", 0, 0);
        int young = Check.man(x, "b", 0, 1, -19, 0);
        int free = Check.man(x, "c", 0, 2, -20, 0);
        int later = Check.man(x, "d", 0, 3, -20, 0);
        int second = Check.man(x, "e", 0, 4, -20, 0);
        int first = Check.man(x, "f", 0, 5, -21, 51);
        for (int m = 0; m < 6; m++) {
            x.fact(m, 2, m < 3 ? 1 : 0, 0, 3639);
            x.fact(m, 3, m < 4 ? 1 : 0, 0, 3639);
        }
        x.fact(first, 4, 1, 0, 0);
        x.lot(0, 1);
        int[] due = {0, 1, 2, 3, 4, 5};
        int[] line = {-1, -1, 2, 1, 3, 0};
        int[] men = {none, young, free, later, second, first};
        for (int i = 0; i < 6; i++) {
            Check.due("state of " + i, x.state(0, men[i], 0), due[i]);
            Check.due("why of " + i, x.why(), line[i]);
        }
        Check.due("man 6", x.state(0, 6, 0), -1);
        Check.due("why stays", x.why(), 0);
        Check.due("man -1", x.state(0, -1, 0), -1);
        Check.due("LOT 1", x.state(1, 0, 0), -1);
        Check.due("LOT -1", x.state(-1, 0, 0), -1);
        Check.due("place of the first", x.place(0, first, 0), 0);
        Check.due("place of the second", x.place(0, second, 0), 1);
        Check.due("no place of who is put off", x.place(0, later, 0), -1);
        Check.due("no place of who is free", x.place(0, free, 0), -1);
        Check.due("no place of who is young", x.place(0, young, 0), -1);
        Check.due("no place of who is not there", x.place(0, none, 0), -1);
        Check.due("no place of man 6", x.place(0, 6, 0), -1);
        Check.due("no place in LOT 1", x.place(1, 0, 0), -1);
    }

    private static void ageOfTheLaw() {
        LotOffice x = new LotOffice();
        for (int m = 0; m < 8; m++) {
            Check.man(x, "a", 0, m, -19 - m, 0);
        }
        x.lot(0, 60);
        int[] without = {1, 5, 5, 5, 5, 5, 5, 1};
        for (int m = 0; m < 8; m++) {
            Check.due("20 to 25, AGE " + (19 + m), x.state(0, m, 0), without[m]);
        }
        Check.law(x, "age 19 to 21;", 0);
        int[] with = {5, 5, 5, 1, 1, 1, 1, 1};
        for (int m = 0; m < 8; m++) {
            Check.due("19 to 21, AGE " + (19 + m), x.state(0, m, 0), with[m]);
        }
        x.lot(364, 60);
        Check.due("a YEAR later", x.state(1, 2, 0), 1);
        Check.due("one more came of age", x.called(1, 0), 2);
    }

    private static void orderOfThoseCalled() {
        LotOffice x = new LotOffice();
        Check.law(x, "class 4 if trade = 1;class 0 if trade = 2;class 8 if trade = 3;", 0);
        int[] week = {5, 4, 4, 4, 4, 0, 9, 51, 0};
        String[] name = {"b", "b", "a", "a", "b", "z", "a", "a", "a"};
        int[] trade = {1, 1, 1, 1, 1, 1, 3, 2, 0};
        for (int m = 0; m < 9; m++) {
            Check.man(x, name[m], 2, 0, -21, week[m]);
            x.fact(m, 0, trade[m], 0, 0);
        }
        x.lot(0, 3);
        int[] due = {6, 4, 2, 3, 5, 1, 7, 0, 8};
        for (int m = 0; m < 9; m++) {
            Check.due("place of " + m, x.place(0, m, 0), due[m]);
            Check.due("state of " + m, x.state(0, m, 0), due[m] < 3 ? 5 : 4);
        }
        Check.man(x, "a", 1, 0, -21, 0);
        Check.due("another PARISH", x.place(0, 9, 0), 0);
    }

    private static void quotas() {
        LotOffice x = new LotOffice();
        int[] of = {5, 0, 3, 2, 0, 0, 0, 1};
        for (int p = 0; p < 8; p++) {
            for (int i = 0; i < of[p]; i++) {
                Check.man(x, "a", p, 0, -21, 0);
            }
        }
        x.lot(0, 4);
        // 20/11, 12/11, 8/11, 4/11: one, one, and the greatest rests are of parishes 0 and 3
        int[] due = {2, 0, 1, 1, 0, 0, 0, 0};
        for (int p = 0; p < 8; p++) {
            Check.due("QUOTA of " + p, x.quota(0, p, 0), due[p]);
        }
        Check.due("all", x.called(0, 0), 4);
        Check.due("PARISH 8", x.quota(0, 8, 0), -1);
        Check.due("PARISH -1", x.quota(0, -1, 0), -1);
        Check.due("LOT 1", x.quota(1, 0, 0), -1);
        x.lot(0, 60);
        for (int p = 0; p < 8; p++) {
            Check.due("as many as there are, of " + p, x.quota(1, p, 0), of[p]);
        }
        Check.due("no more than there are", x.called(1, 0), 11);
        x.lot(0, 0);
        Check.due("none WANTED", x.called(2, 0), 0);
        Check.due("no QUOTA", x.quota(2, 0, 0), 0);
        Check.due("nobody is KNOWN", x.quota(1, 0, -1), 0);
    }

    private static void restsOfLikeSize() {
        LotOffice x = new LotOffice();
        for (int p = 7; p >= 0; p--) {
            Check.man(x, "a", p, 0, -21, 0);
        }
        x.lot(0, 3);
        for (int p = 0; p < 8; p++) {
            Check.due("the least PARISHES, " + p, x.quota(0, p, 0), p < 3 ? 1 : 0);
        }
        x.lot(0, 8);
        for (int p = 0; p < 8; p++) {
            Check.due("all, " + p, x.quota(1, p, 0), 1);
        }
    }

    private static void whatIsKnown() {
        LotOffice x = new LotOffice();
        x.lot(50, 1);
        int a = Check.man(x, "a", 0, 0, -20, 0);
        x.next(10);
        int b = Check.man(x, "b", 0, 1, -21, 1);
        Check.due("b is called in none", x.state(0, b, 9), 0);
        Check.due("a alone", x.state(0, a, 9), 5);
        Check.due("a is ahead", x.state(0, a, 10), 5);
        x.next(10);
        x.birth(a, -20, 2);
        Check.due("b is ahead now", x.state(0, b, 20), 5);
        Check.due("a is not", x.state(0, a, 20), 4);
        Check.due("AS OF 19", x.state(0, a, 19), 5);
        x.next(10);
        Check.law(x, "free if age = 20;", 40);
        Check.due("free AS OF 30", x.state(0, a, 30), 2);
        Check.due("not AS OF 29", x.state(0, a, 29), 4);
        Check.due("nothing is KNOWN below 0", x.state(0, a, -1), 0);
        Check.due("all is KNOWN far behind", x.state(0, a, 100000), 2);
    }

    private static void factsAndGradesOnTheDay() {
        LotOffice x = new LotOffice();
        int m = Check.man(x, "a", 0, 0, -20, 0);
        Check.law(x, "free if grade > 4;later 1 if children > 1;", 0);
        x.lot(20, 1);
        x.next(10);
        x.fact(m, 1, 5, 0, 20);
        x.next(5);
        x.fact(m, 1, 1, 20, 30);
        x.next(5);
        x.exam(m, 0, 5);
        x.next(5);
        x.exam(m, 0, 4);
        x.fact(m, 1, 9, 21, 30);
        Check.due("AS OF 9", x.state(0, m, 9), 5);
        Check.due("AS OF 10", x.state(0, m, 10), 3);
        Check.due("AS OF 15 the last one told", x.state(0, m, 15), 5);
        Check.due("AS OF 20", x.state(0, m, 20), 2);
        Check.due("the GRADE on its DAY", x.state(0, m, 25), 2);
        Check.due("the LINE", x.why(), 0);
        x.next(0);
        x.fact(m, 1, 2, 20, 20);
        x.lot(25, 1);
        Check.due("the next LOT has another GRADE", x.state(1, m, 25), 3);
    }

    private static void mereNames() {
        LotOffice x = new LotOffice();
        int a = Check.man(x, "a", 0, 0, -21, 5);
        int b = Check.man(x, "b", 1, 0, -20, 0);
        Check.law(x, "free if married;class 1;", 0);
        x.fact(b, 2, 1, 0, 3639);
        x.lot(0, 2);
        x.next(1);
        x.same(b, a);
        Check.due("b is free", x.state(0, b, 0), 2);
        Check.due("b is a mere NAME", x.state(0, b, 1), 0);
        Check.due("without a LINE", x.why(), -1);
        Check.due("a is not married by that", x.state(0, a, 1), 5);
        Check.due("one is CALLED", x.called(0, 1), 1);
        x.birth(b, -30, 0);
        Check.due("nor is a born by it", x.age(a, 0, 1), 20);
        Check.due("no place", x.place(0, b, 1), -1);
    }

    private static void serving() {
        LotOffice x = new LotOffice();
        Check.law(x, "free if serving = 1;later 1 if serving = 2;", 0);
        int a = Check.man(x, "a", 0, 9, -21, 0);
        int b = Check.man(x, "b", 0, 9, -21, 1);
        int c = Check.man(x, "c", 0, 9, -21, 2);
        int d = Check.man(x, "d", 0, 8, -21, 3);
        x.lot(0, 1);
        x.lot(1, 1);
        x.lot(1, 4);
        Check.due("a is CALLED", x.state(0, a, 0), 5);
        Check.due("his own serving is not asked", x.state(1, a, 0), 5);
        Check.due("b is free", x.state(1, b, 0), 2);
        Check.due("no BROTHER of a", x.state(1, d, 0), 4);
        Check.due("one BROTHER in two LOTS is one", x.state(2, b, 0), 2);
        x.next(1);
        x.send(0, a, d);
        Check.due("d serves for a: a is free of BROTHERS", x.state(1, a, 1), 5);
        Check.due("nor is b free now", x.state(1, b, 1), 4);
        Check.due("AS OF 0 he was", x.state(1, b, 0), 2);
        x.send(1, a, b);
        Check.due("b serves in LOT 1", x.state(2, c, 1), 2);
        Check.due("and d in LOT 0, no BROTHER of his serves", x.state(2, d, 1), 5);
        x.next(1);
        x.same(a, d);
        Check.due("b serves still", x.state(2, c, 2), 2);
        Check.law(x, "free if serving > 0;", 1);
        Check.due("LOT 0 has the law ahead", x.state(0, a, 2), 5);
    }

    private static void why() {
        LotOffice x = new LotOffice();
        int m = Check.man(x, "a", 0, 0, -20, 0);
        x.lot(0, 0);
        Check.law(x, "send;appeal 5;class 3 if married;class 4;class 5;", 0);
        Check.due("state", x.state(0, m, 0), 4);
        Check.due("LINES of all kinds count", x.why(), 3);
        Check.due("no such man", x.state(0, 7, 0), -1);
        Check.due("why stays", x.why(), 3);
        x.place(0, m, -1);
        x.called(0, -1);
        Check.due("others do not tell it", x.why(), 3);
        Check.due("not there", x.state(0, m, -1), 0);
        Check.due("another STATE", x.why(), -1);
        Check.law(x, "class 3 if married;", 0);
        Check.due("state", x.state(0, m, 0), 4);
        Check.due("none did", x.why(), -1);
    }
}
