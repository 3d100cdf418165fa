/** The edges that the document's part 3, LOTS, names, sentence by sentence. */
public final class EdgeLotTest {
    public static void main(String[] args) {
        fourLots();
        daysOfLots();
        daysOfLotsLater();
        wanted();
        weeksTaken();
        weeksRefused();
        weeksOnce();
        lettersTaken();
        lettersRefused();
        lettersOnce();
        withoutPicks();
        stateNotThere();
        stateNotOfAge();
        stateFreeAheadOfPutOff();
        stateReachedOrNot();
        theList();
        noSuchOnes();
        asManyAsAreWanted();
        cut();
        restsOneEach();
        restsOfLikeSize();
        sixtyMen();
        classAheadOfWeek();
        weekAheadOfLetter();
        letterAheadOfNumber();
        sentOnItsDay();
        sentOnTheLastDay();
        whoMaySend();
        whoMayBeSent();
        sentAndOfNoStateZero();
        sixtySent();
        chains();
        theLongestChain();
        servesNoSuchOnes();
        mendedAtItsEdges();
        mendedOfAll();
        mendedByBothDays();
        appealOnItsDays();
        appealNoSuchOnes();
        heard();
        sixtyAppeals();
        Check.close();
    }

    private static void fourLots() {
        Check.sentence("LOTS 0 .. 3");
        LotOffice x = new LotOffice();
        for (int l = 0; l < 4; l++) {
            Check.due("none yet", x.called(l, 0), -1);
            Check.due("a refused one takes no number", x.lot(0, 61), -1);
            Check.due("LOT " + l, x.lot(0, 0), l);
            Check.due("now it is", x.called(l, 0), 0);
        }
        Check.due("a fifth", x.lot(0, 0), -1);
        Check.due("a fifth on the last DAY", x.lot(3639, 60), -1);
        Check.due("four", x.count(2), 4);
        int[] none = {-1, 4, Check.LEAST, Check.GREATEST};
        for (int l : none) {
            Check.due("LOT " + l, x.called(l, 0), -1);
        }
    }

    private static void daysOfLots() {
        Check.sentence("each on a DAY (that of the LOT ahead of it or later, TODAY or later)");
        LotOffice x = new LotOffice();
        x.next(10);
        int[] none = {9, 0, -1, 3640, Check.LEAST, Check.GREATEST};
        for (int day : none) {
            Check.due("the first on DAY " + day, x.lot(day, 0), -1);
        }
        Check.due("on TODAY", x.lot(10, 0), 0);
        Check.due("on the DAY of the LOT ahead", x.lot(10, 0), 1);
        Check.due("on a later one", x.lot(20, 0), 2);
        Check.due("ahead of the LOT ahead of it", x.lot(19, 0), -1);
        Check.due("on TODAY that is ahead of it", x.lot(10, 0), -1);
        Check.due("on its DAY", x.lot(20, 0), 3);
    }

    private static void daysOfLotsLater() {
        LotOffice y = new LotOffice();
        Check.due("the first", y.lot(10, 0), 0);
        Check.due("the second ahead of the first, on TODAY", y.lot(0, 0), -1);
        Check.due("the second on the DAY ahead of the first", y.lot(9, 0), -1);
        Check.due("one LOT", y.count(2), 1);
        Check.due("the second on the first one's DAY", y.lot(10, 0), 1);
        LotOffice x = new LotOffice();
        x.lot(10, 0);
        x.next(20);
        Check.due("on the DAY of the LOT ahead, ahead of TODAY", x.lot(10, 0), -1);
        Check.due("behind it, ahead of TODAY", x.lot(19, 0), -1);
        Check.due("on TODAY", x.lot(20, 0), 1);
        Check.due("on the last DAY", x.lot(3639, 0), 2);
        Check.due("on the last but one", x.lot(3638, 0), -1);
        Check.due("on the last DAY again", x.lot(3639, 0), 3);
    }

    private static void wanted() {
        Check.sentence("with a number of men that are WANTED (0 to 60)");
        LotOffice x = Check.office(3);
        int[] none = {-1, 61, Check.LEAST, Check.GREATEST};
        for (int wanted : none) {
            Check.due(wanted + " WANTED", x.lot(0, wanted), -1);
        }
        Check.due("none WANTED", x.lot(0, 0), 0);
        Check.due("60 WANTED", x.lot(0, 60), 1);
        Check.due("1 WANTED", x.lot(0, 1), 2);
        Check.due("CALLED of none", x.called(0, 0), 0);
        Check.due("CALLED of 60", x.called(1, 0), 3);
        Check.due("CALLED of 1", x.called(2, 0), 1);
    }

    private static void weeksTaken() {
        Check.sentence("WEEKS' bowl: 52 picks, the weeks each once");
        LotOffice x = new LotOffice();
        Check.man(x, "a", 0, 0, -21, 0);
        Check.man(x, "a", 0, 1, -21, 51);
        Check.man(x, "a", 0, 2, -21, 1);
        x.lot(0, 1);
        x.lot(0, 1);
        Check.tape(x, Check.downFrom(52));
        Check.due("51 down to 0", x.weeks(0), true);
        Check.due("an empty tape", x.count(9), 0);
        Check.due("week 51 is the first", x.place(0, 1, 0), 0);
        Check.due("week 1 is the last but one", x.place(0, 2, 0), 1);
        Check.due("week 0 is the last", x.place(0, 0, 0), 2);
        int[] picks = Check.upTo(52);
        picks[0] = 1;
        picks[1] = 0;
        Check.tape(x, picks);
        Check.due("two in each other's place", x.weeks(1), true);
        Check.due("week 1 is the first", x.place(1, 2, 0), 0);
        Check.due("week 0 is the second", x.place(1, 0, 0), 1);
        Check.due("week 51 is the last", x.place(1, 1, 0), 2);
    }

    /** Picks of which one is another number, and such of another length: none is told. */
    private static void refused(boolean weeks, int most) {
        int[][] wrong = {{}, {0}, Check.upTo(most - 1), Check.upTo(most + 1), Check.like(most, 0), Check.like(340, 0),
            Check.upTo(weeks ? 26 : 52), Check.upTo(most), Check.upTo(most), Check.upTo(most), Check.upTo(most), Check.upTo(most)};
        wrong[7][most - 1] = most;
        wrong[8][0] = most;
        wrong[9][most - 1] = 255;
        wrong[10][most - 1] = 0;
        wrong[11][0] = most - 1;
        for (int i = 0; i < wrong.length; i++) {
            LotOffice x = new LotOffice();
            x.lot(0, 0);
            Check.tape(x, wrong[i]);
            Check.due("wrong picks " + i, weeks ? x.weeks(0) : x.letters(0), false);
            Check.due("an empty tape", x.count(9), 0);
            Check.tape(x, Check.downFrom(most));
            Check.due("right ones behind them", weeks ? x.weeks(0) : x.letters(0), true);
        }
        int[] noLot = {-1, 1, 4, Check.LEAST, Check.GREATEST};
        LotOffice x = new LotOffice();
        x.lot(0, 0);
        for (int l : noLot) {
            Check.tape(x, Check.upTo(most));
            Check.due("of LOT " + l, weeks ? x.weeks(l) : x.letters(l), false);
            Check.due("an empty tape", x.count(9), 0);
        }
        Check.tape(x, Check.upTo(most));
        Check.due("of LOT 0", weeks ? x.weeks(0) : x.letters(0), true);
    }

    private static void weeksRefused() {
        Check.sentence("WEEKS' bowl: 52 picks, the weeks each once");
        refused(true, 52);
    }

    private static void weeksOnce() {
        Check.sentence("WEEKS' bowl told once for a LOT, on whatever DAY");
        LotOffice x = new LotOffice();
        Check.man(x, "a", 0, 0, -21, 0);
        Check.man(x, "a", 0, 0, -21, 51);
        for (int l = 0; l < 4; l++) {
            x.lot(5, 1);
        }
        Check.tape(x, Check.downFrom(52));
        Check.due("ahead of its DAY", x.weeks(0), true);
        Check.tape(x, Check.upTo(52));
        Check.due("told again", x.weeks(0), false);
        Check.due("an empty tape", x.count(9), 0);
        Check.tape(x, Check.downFrom(52));
        Check.due("the same again", x.weeks(0), false);
        Check.due("the first ones stay", x.place(0, 1, 0), 0);
        x.next(5);
        Check.tape(x, Check.downFrom(52));
        Check.due("on its DAY", x.weeks(1), true);
        x.next(3634);
        Check.tape(x, Check.downFrom(52));
        Check.due("on the last DAY", x.weeks(3), true);
        Check.due("as told, AS OF 0", x.place(3, 1, 0), 0);
        Check.due("without picks in between", x.place(2, 1, 0), 1);
        Check.due("AS OF the last DAY, too", x.place(1, 1, 3639), 0);
    }

    private static void lettersTaken() {
        Check.sentence("LETTERS' bowl: 26 picks, a .. z each once (0 .. 25)");
        LotOffice x = new LotOffice();
        Check.man(x, "a", 0, 0, -21, 0);
        Check.man(x, "za", 0, 1, -21, 0);
        Check.man(x, "ba", 0, 2, -21, 0);
        x.lot(0, 1);
        x.lot(0, 1);
        Check.tape(x, Check.downFrom(26));
        Check.due("z down to a", x.letters(0), true);
        Check.due("an empty tape", x.count(9), 0);
        Check.due("z is the first", x.place(0, 1, 0), 0);
        Check.due("b is the last but one", x.place(0, 2, 0), 1);
        Check.due("a is the last", x.place(0, 0, 0), 2);
        int[] picks = Check.upTo(26);
        picks[0] = 1;
        picks[1] = 0;
        Check.tape(x, picks);
        Check.due("two in each other's place", x.letters(1), true);
        Check.due("b is the first", x.place(1, 2, 0), 0);
        Check.due("a is the second", x.place(1, 0, 0), 1);
        Check.due("z is the last", x.place(1, 1, 0), 2);
    }

    private static void lettersRefused() {
        Check.sentence("LETTERS' bowl: 26 picks, a .. z each once (0 .. 25)");
        refused(false, 26);
        LotOffice x = new LotOffice();
        x.lot(0, 0);
        Check.tape(x, "abcdefghijklmnopqrstuvwxyz");
        Check.due("a .. z by their bytes", x.letters(0), false);
    }

    private static void lettersOnce() {
        Check.sentence("LETTERS' bowl told once for a LOT, on whatever DAY");
        LotOffice x = new LotOffice();
        Check.man(x, "a", 0, 0, -21, 0);
        Check.man(x, "z", 0, 1, -21, 0);
        x.lot(5, 1);
        x.lot(5, 1);
        x.lot(5, 1);
        Check.tape(x, Check.downFrom(26));
        Check.due("ahead of its DAY", x.letters(0), true);
        Check.tape(x, Check.upTo(26));
        Check.due("told again", x.letters(0), false);
        Check.due("the first ones stay", x.place(0, 1, 0), 0);
        x.next(3639);
        Check.tape(x, Check.downFrom(26));
        Check.due("on the last DAY", x.letters(1), true);
        Check.due("as told, AS OF 0", x.place(1, 1, 0), 0);
        Check.due("without picks", x.place(2, 1, 0), 1);
        Check.tape(x, Check.upTo(52));
        Check.due("weeks are another bowl", x.weeks(0), true);
    }

    private static void withoutPicks() {
        Check.sentence("without picks weeks and letters come in their order");
        LotOffice x = new LotOffice();
        String[] names = {"z", "a", "a", "b", "y", "z"};
        int[] weeks = {0, 51, 1, 1, 50, 51};
        int[] due = {0, 4, 1, 2, 3, 5};
        for (int m = 0; m < 6; m++) {
            Check.man(x, names[m], 0, m, -22, weeks[m]);
        }
        x.lot(0, 0);
        for (int m = 0; m < 6; m++) {
            Check.due("place of " + m, x.place(0, m, 0), due[m]);
        }
    }

    private static void stateNotThere() {
        Check.sentence("0 not there, or a mere NAME");
        LotOffice x = Check.office(2);
        Check.man(x, "c", 0, 0);
        x.lot(0, 60);
        Check.due("not there", x.state(0, 2, 0), 0);
        Check.due("there", x.state(0, 1, 0), 5);
        x.same(0, 1);
        Check.due("a mere NAME", x.state(0, 1, 0), 0);
        Check.due("the man", x.state(0, 0, 0), 5);
        Check.due("one is CALLED", x.called(0, 0), 1);
        LotOffice y = new LotOffice();
        y.lot(0, 60);
        Check.due("no MEN at all", y.called(0, 0), 0);
        Check.due("no QUOTA", y.quota(0, 0, 0), 0);
        Check.due("none mended", y.mended(0, -1, 0, false), 0);
    }

    private static void stateNotOfAge() {
        Check.sentence("1 not of 'age' on that DAY");
        LotOffice x = new LotOffice();
        Check.law(x, "age 20 to 21;free;", 0);
        Check.man(x, "a", 0, 0, -20, 1);
        x.lot(6, 0);
        x.lot(7, 0);
        x.lot(7 + 727, 0);
        x.lot(7 + 728, 0);
        int[] due = {1, 2, 2, 1};
        for (int l = 0; l < 4; l++) {
            Check.due("LOT " + l, x.state(l, 0, 0), due[l]);
        }
        x.next(100);
        Check.due("not of TODAY's AGE", x.state(0, 0, 100), 1);
    }

    private static void stateFreeAheadOfPutOff() {
        Check.sentence("1 not of 'age' on that DAY; 2 free; 3 put off");
        LotOffice x = Check.office(1);
        x.lot(0, 1);
        Check.law(x, "later 1;free;", 0);
        Check.due("free is ahead of put off", x.state(0, 0, 0), 2);
        Check.law(x, "later 3000;free if hides;", 0);
        Check.due("put off", x.state(0, 0, 0), 3);
        Check.law(x, "age 1 to 2;later 3000;free;", 0);
        Check.due("not of age is ahead of both", x.state(0, 0, 0), 1);
        Check.due("without a LINE", x.why(), -1);
    }

    private static void stateReachedOrNot() {
        Check.sentence("4 of age, not reached; 5 CALLED");
        LotOffice x = Check.office(3);
        x.lot(0, 0);
        x.lot(0, 1);
        x.lot(0, 2);
        x.lot(0, 3);
        for (int l = 0; l < 4; l++) {
            for (int m = 0; m < 3; m++) {
                Check.due("man " + m + ", " + l + " WANTED", x.state(l, m, 0), m < l ? 5 : 4);
            }
        }
    }

    private static void theList() {
        Check.sentence("Those who are neither 0, 1, 2 nor 3 are the LIST");
        LotOffice x = Check.office(6);
        Check.law(x, "free if hides;later 1 if school;", 0);
        x.birth(0, -19, 0);
        x.fact(1, 4, 1, 0, 0);
        x.fact(2, 3, 1, 0, 0);
        int none = Check.man(x, "n", 0, 0);
        x.same(4, 5);
        x.lot(0, 1);
        int[] state = {1, 2, 3, 5, 4, 0, 0};
        int[] place = {-1, -1, -1, 0, 1, -1, -1};
        for (int m = 0; m <= none; m++) {
            Check.due("state of " + m, x.state(0, m, 0), state[m]);
            Check.due("place of " + m, x.place(0, m, 0), place[m]);
        }
        Check.due("none CALLED but those", x.called(0, 0), 1);
    }

    private static void noSuchOnes() {
        Check.sentence("NONE: no such ones");
        LotOffice x = Check.office(2);
        x.lot(0, 1);
        int[] noLot = {-1, 1, 4, Check.LEAST, Check.GREATEST};
        for (int l : noLot) {
            Check.due("state in LOT " + l, x.state(l, 0, 0), -1);
            Check.due("quota in LOT " + l, x.quota(l, 0, 0), -1);
            Check.due("place in LOT " + l, x.place(l, 0, 0), -1);
            Check.due("called in LOT " + l, x.called(l, 0), -1);
        }
        int[] noMan = {-1, 2, 60, Check.LEAST, Check.GREATEST};
        for (int m : noMan) {
            Check.due("state of " + m, x.state(0, m, 0), -1);
            Check.due("place of " + m, x.place(0, m, 0), -1);
        }
        int[] noParish = {-1, 8, Check.LEAST, Check.GREATEST};
        for (int p : noParish) {
            Check.due("quota of " + p, x.quota(0, p, 0), -1);
        }
        Check.due("quota of PARISH 7", x.quota(0, 7, 0), 0);
        Check.due("state of man 1", x.state(0, 1, 0), 4);
    }

    private static void asManyAsAreWanted() {
        Check.sentence("of WANTED (or as many as are on the LIST, if that is fewer)");
        LotOffice x = Check.office(3);
        x.lot(0, 2);
        x.lot(0, 3);
        x.lot(0, 4);
        x.lot(0, 0);
        int[] due = {2, 3, 3, 0};
        for (int l = 0; l < 4; l++) {
            Check.due("CALLED in LOT " + l, x.called(l, 0), due[l]);
            Check.due("QUOTA in LOT " + l, x.quota(l, 0, 0), due[l]);
        }
        Check.law(x, "free;", 0);
        for (int l = 0; l < 4; l++) {
            Check.due("of an empty LIST in LOT " + l, x.called(l, 0), 0);
            Check.due("QUOTA of an empty LIST in LOT " + l, x.quota(l, 0, 0), 0);
        }
    }

    /** So many men of PARISHES 0, 1 and so on, and a LOT: what are the QUOTAS? */
    private static void quotas(int wanted, int[] of, int[] due) {
        LotOffice x = new LotOffice();
        for (int p = 0; p < of.length; p++) {
            Check.men(x, of[p], p);
        }
        x.lot(0, wanted);
        for (int p = 0; p < 8; p++) {
            Check.due("QUOTA of " + p + ", " + wanted + " WANTED", x.quota(0, p, 0), p < due.length ? due[p] : 0);
        }
    }

    private static void cut() {
        Check.sentence("each PARISH gets WANTED times its men on the LIST by all on the LIST, cut");
        quotas(2, new int[] {2, 2}, new int[] {1, 1});
        quotas(3, new int[] {4, 4, 4}, new int[] {1, 1, 1});
        quotas(6, new int[] {2, 4, 6}, new int[] {1, 2, 3});
        quotas(7, new int[] {7}, new int[] {7});
        quotas(1, new int[] {1}, new int[] {1});
        quotas(0, new int[] {5, 5}, new int[] {0, 0});
    }

    private static void restsOneEach() {
        Check.sentence("what is left goes, one each, to those with the greatest rests");
        quotas(1, new int[] {1, 2}, new int[] {0, 1});
        quotas(2, new int[] {1, 2}, new int[] {1, 1});
        quotas(3, new int[] {1, 2}, new int[] {1, 2});
        quotas(4, new int[] {3, 3, 4}, new int[] {1, 1, 2});
        // 10/13, 20/13, 35/13: cut 0, 1, 2; the two left go to the rests 10 and 9
        quotas(5, new int[] {2, 4, 7}, new int[] {1, 1, 3});
        // 3/14 each of one, 21/14: one is cut, the rests 7 and 3 get one each
        quotas(3, new int[] {1, 1, 1, 1, 1, 1, 1, 7}, new int[] {1, 0, 0, 0, 0, 0, 0, 2});
    }

    private static void restsOfLikeSize() {
        Check.sentence("of like ones the least PARISH");
        quotas(1, new int[] {1, 1, 1, 1, 1, 1, 1, 1}, new int[] {1});
        quotas(7, new int[] {1, 1, 1, 1, 1, 1, 1, 1}, new int[] {1, 1, 1, 1, 1, 1, 1, 0});
        quotas(8, new int[] {1, 1, 1, 1, 1, 1, 1, 1}, new int[] {1, 1, 1, 1, 1, 1, 1, 1});
        quotas(9, new int[] {1, 1, 1, 1, 1, 1, 1, 1}, new int[] {1, 1, 1, 1, 1, 1, 1, 1});
        quotas(3, new int[] {0, 0, 2, 2}, new int[] {0, 0, 2, 1});
        quotas(1, new int[] {0, 0, 0, 0, 0, 0, 3, 3}, new int[] {0, 0, 0, 0, 0, 0, 1, 0});
    }

    private static void sixtyMen() {
        Check.sentence("WANTED (0 to 60) of MEN 0 .. 59");
        int[] of = {8, 8, 8, 8, 7, 7, 7, 7};
        quotas(60, of, of);
        // 472/60 four times (7, 52 left), 413/60 four times (6, 53 left): seven are left
        quotas(59, of, new int[] {8, 8, 8, 7, 7, 7, 7, 7});
        quotas(1, of, new int[] {1});
        LotOffice x = Check.office(60);
        x.lot(0, 60);
        x.lot(0, 59);
        Check.due("all", x.called(0, 0), 60);
        Check.due("all but one", x.called(1, 0), 59);
        Check.due("the last on the LIST is CALLED", x.state(0, 50, 0), 5);
        Check.due("his place", x.place(0, 50, 0), 59);
        Check.due("the last one is not", x.state(1, 50, 0), 4);
        Check.due("the last but one is", x.state(1, 49, 0), 5);
    }

    private static void classAheadOfWeek() {
        Check.sentence("by class, then by the place of their week of BIRTH among picks");
        LotOffice x = new LotOffice();
        Check.law(x, "class 8 if trade = 0;class 7 if trade = 1;class 1 if trade = 2;class 0 if trade = 3;", 0);
        int[] week = {0, 51, 0, 51, 0};
        int[] due = {3, 2, 1, 0, 4};
        for (int m = 0; m < 5; m++) {
            Check.man(x, m % 2 == 0 ? "a" : "z", 0, m, -22, week[m]);
            x.fact(m, 0, m == 4 ? 9 : m, 0, 0);
        }
        x.lot(0, 1);
        for (int m = 0; m < 5; m++) {
            Check.due("place of " + m, x.place(0, m, 0), due[m]);
        }
        Check.due("class 0 is CALLED", x.state(0, 3, 0), 5);
        Check.due("class 1 is not", x.state(0, 2, 0), 4);
    }

    private static void weekAheadOfLetter() {
        Check.sentence("then by the place of their week of BIRTH among picks, of the first letter of their NAME");
        LotOffice x = new LotOffice();
        Check.man(x, "a", 0, 0, -20, 0);
        Check.man(x, "z", 0, 1, -22, 51);
        Check.man(x, "zz", 0, 2, -21, 50);
        x.lot(0, 1);
        x.lot(0, 1);
        int[] picks = Check.upTo(52);
        picks[0] = 51;
        picks[51] = 0;
        Check.tape(x, picks);
        x.weeks(1);
        int[] without = {0, 2, 1};
        int[] with = {2, 0, 1};
        for (int m = 0; m < 3; m++) {
            Check.due("place without picks of " + m, x.place(0, m, 0), without[m]);
            Check.due("place by picks of " + m, x.place(1, m, 0), with[m]);
        }
    }

    private static void letterAheadOfNumber() {
        Check.sentence("of the first letter of their NAME, then by number");
        LotOffice x = new LotOffice();
        String[] names = {"za", "ya", "az", "zb", "aa", "a"};
        for (int m = 0; m < 6; m++) {
            Check.man(x, names[m], 0, m, -21, 7);
        }
        x.lot(0, 1);
        x.lot(0, 1);
        Check.tape(x, Check.downFrom(26));
        x.letters(1);
        int[] without = {4, 3, 0, 5, 1, 2};
        int[] with = {0, 2, 3, 1, 4, 5};
        for (int m = 0; m < 6; m++) {
            Check.due("place without picks of " + m, x.place(0, m, 0), without[m]);
            Check.due("place by picks of " + m, x.place(1, m, 0), with[m]);
        }
    }

    private static void sentOnItsDay() {
        Check.sentence("SENT: for a LOT on its DAY or later");
        LotOffice x = Check.office(4);
        x.lot(10, 2);
        Check.due("long ahead of it", x.send(0, 0, 2), false);
        x.next(9);
        Check.due("on the DAY ahead", x.send(0, 0, 2), false);
        x.next(1);
        Check.due("on its DAY", x.send(0, 0, 2), true);
        x.next(1);
        Check.due("on the DAY behind", x.send(0, 1, 3), true);
        Check.due("two", x.count(6), 2);
    }

    private static void sentOnTheLastDay() {
        LotOffice x = Check.office(4);
        Check.law(x, "age 0 to 99;", 0);
        x.lot(0, 1);
        x.lot(3639, 1);
        x.next(3638);
        Check.due("on the last DAY but one", x.send(1, 0, 2), false);
        x.next(1);
        Check.due("on the last DAY", x.send(1, 0, 2), true);
        Check.due("of the first LOT", x.send(0, 0, 2), true);
        Check.due("it SERVES AS OF it", x.serves(0, 0, 3639), 2);
        Check.due("not AS OF the one ahead", x.serves(0, 0, 3638), 0);
    }

    private static void whoMaySend() {
        Check.sentence("who is CALLED in it AS OF TODAY, or was SENT in it by another one, and has not yet sent, may send another man");
        LotOffice x = Check.office(7);
        x.lot(0, 2);
        x.lot(0, 2);
        int[] none = {-1, 7, 60, Check.LEAST, Check.GREATEST};
        for (int m : none) {
            Check.due("man " + m + " sends", x.send(0, m, 6), false);
            Check.due("man " + m + " is SENT", x.send(0, 0, m), false);
        }
        int[] noLot = {-1, 2, 4, Check.LEAST, Check.GREATEST};
        for (int l : noLot) {
            Check.due("LOT " + l, x.send(l, 0, 6), false);
        }
        Check.due("not reached", x.send(0, 2, 6), false);
        Check.due("himself", x.send(0, 0, 0), false);
        Check.due("the last one CALLED", x.send(0, 1, 6), true);
        Check.due("has sent", x.send(0, 1, 5), false);
        Check.due("was SENT", x.send(0, 6, 5), true);
        Check.due("has sent, too", x.send(0, 6, 4), false);
        Check.due("was SENT in another LOT", x.send(1, 6, 4), false);
        Check.due("has sent in another LOT", x.send(1, 1, 4), true);
        x.next(1);
        x.birth(0, -40, 0);
        Check.due("no more CALLED AS OF TODAY", x.send(0, 0, 4), false);
        Check.due("he who is CALLED now", x.send(0, 2, 4), true);
        Check.due("in all", x.count(6), 4);
    }

    private static void whoMayBeSent() {
        Check.sentence("one whose STATE in it is 1 or 4, and who neither was SENT nor has sent in it");
        LotOffice x = Check.office(6);
        Check.law(x, "free if hides;later 3 if school;", 0);
        int none = Check.man(x, "n", 0, 0);
        int young = Check.man(x, "y", 0, 0, -5, 0);
        x.fact(3, 4, 1, 0, 0);
        x.fact(4, 3, 1, 0, 0);
        x.lot(0, 2);
        x.lot(0, 2);
        Check.due("STATE 0", x.send(0, 0, none), false);
        Check.due("STATE 2", x.send(0, 0, 3), false);
        Check.due("STATE 3", x.send(0, 0, 4), false);
        Check.due("STATE 5", x.send(0, 0, 1), false);
        Check.due("none of these was", x.count(6), 0);
        Check.due("STATE 1", x.send(0, 0, young), true);
        Check.due("STATE 4", x.send(0, 1, 2), true);
        Check.due("who was SENT", x.send(0, young, 2), false);
        Check.due("who has sent", x.send(0, young, 0), false);
        Check.due("himself", x.send(0, young, young), false);
        Check.due("SENT in another LOT", x.send(1, 0, 2), true);
        Check.due("not of age is SENT and sends", x.send(0, young, 5), true);
        x.next(1);
        x.birth(0, -40, 0);
        Check.due("who has sent, though of STATE 1 now", x.state(0, 0, 1), 1);
        Check.due("is not SENT", x.send(0, 5, 0), false);
    }

    private static void sentAndOfNoStateZero() {
        Check.sentence("or was SENT in it by another one (and is of no STATE 0)");
        LotOffice x = Check.office(5);
        x.lot(0, 1);
        x.send(0, 0, 3);
        x.next(1);
        x.same(2, 3);
        Check.due("a mere NAME", x.state(0, 3, 1), 0);
        Check.due("does not send", x.send(0, 3, 4), false);
        Check.due("nor does the man: it was not he", x.send(0, 2, 4), false);
        LotOffice y = Check.office(5);
        Check.law(y, "free if hides;later 1 if school;", 0);
        y.lot(0, 1);
        y.send(0, 0, 3);
        y.fact(3, 4, 1, 0, 0);
        Check.due("STATE 2 now", y.state(0, 3, 0), 2);
        Check.due("sends all the same", y.send(0, 3, 4), true);
        y.fact(4, 3, 1, 0, 0);
        Check.due("STATE 3 now", y.state(0, 4, 0), 3);
        Check.due("sends all the same", y.send(0, 4, 2), true);
    }

    private static void sixtySent() {
        Check.sentence("SENT (60); false: not as told, or there were 60");
        LotOffice x = new LotOffice();
        Check.law(x, "age 0 to 99;", 0);
        for (int m = 0; m < 17; m++) {
            Check.man(x, "a", 0, 0, -22, m);
        }
        for (int l = 0; l < 4; l++) {
            x.lot(0, 1);
        }
        int told = 0;
        for (int l = 0; l < 4; l++) {
            for (int m = 1; m < 17; m++) {
                Check.due("not CALLED takes no place", x.send(l, m, 0), false);
                boolean taken = x.send(l, m - 1, m);
                Check.due("SENT " + told, taken, told < 60);
                told++;
            }
        }
        Check.due("in all", x.count(6), 60);
        Check.due("the 60th counts", x.serves(3, 0, 0), 12);
        Check.due("a 61st of another LOT", x.send(3, 12, 13), false);
    }

    private static void chains() {
        Check.sentence("SERVES in a LOT, AS OF t: of each CALLED the end of the chain: the one who was SENT last along it, as KNOWN");
        LotOffice x = Check.office(6);
        x.lot(0, 2);
        Check.due("a chain of none", x.serves(0, 0, 0), 0);
        x.next(1);
        x.send(0, 0, 3);
        x.next(1);
        x.send(0, 3, 4);
        x.send(0, 1, 5);
        Check.due("AS OF the DAY ahead of both", x.serves(0, 0, 0), 0);
        Check.due("AS OF the first", x.serves(0, 0, 1), 3);
        Check.due("AS OF the second", x.serves(0, 0, 2), 4);
        Check.due("another chain AS OF 1", x.serves(0, 1, 1), 1);
        Check.due("another chain AS OF 2", x.serves(0, 1, 2), 5);
        Check.due("AS OF a DAY far behind", x.serves(0, 0, Check.GREATEST), 4);
    }

    private static void theLongestChain() {
        LotOffice x = Check.office(60);
        x.lot(0, 1);
        int last = 0;
        for (int m = 59; m > 0; m--) {
            Check.due(last + " SENT " + m, x.send(0, last, m), true);
            last = m;
        }
        Check.due("the longest chain there can be ends in one", x.serves(0, 0, 0), 1);
        Check.due("nobody is left", x.send(0, 1, 0), false);
        Check.due("59", x.count(6), 59);
    }

    private static void servesNoSuchOnes() {
        Check.sentence("Who SERVES in a LOT for a man, AS OF t; NONE: no such ones, or not CALLED");
        LotOffice x = Check.office(3);
        x.lot(0, 1);
        x.send(0, 0, 1);
        int[] noLot = {-1, 1, Check.LEAST, Check.GREATEST};
        for (int l : noLot) {
            Check.due("LOT " + l, x.serves(l, 0, 0), -1);
        }
        int[] noMan = {-1, 3, Check.LEAST, Check.GREATEST};
        for (int m : noMan) {
            Check.due("man " + m, x.serves(0, m, 0), -1);
        }
        Check.due("not reached", x.serves(0, 2, 0), -1);
        Check.due("SENT, but not CALLED", x.serves(0, 1, 0), -1);
        Check.due("CALLED", x.serves(0, 0, 0), 1);
    }

    private static void mendedAtItsEdges() {
        Check.sentence("The k-th (0 the least number) of the latest mended() that was not NONE; NONE: there is none such, or ahead of any");
        LotOffice x = Check.office(4);
        x.lot(0, 2);
        int[] none = {-1, 0, 2, Check.LEAST, Check.GREATEST};
        for (int k : none) {
            Check.due("ahead of any, " + k, x.mendedAt(k), -1);
        }
        Check.due("two", x.mended(0, -1, 0, false), 2);
        Check.due("0", x.mendedAt(0), 0);
        Check.due("1", x.mendedAt(1), 1);
        int[] out = {-1, 2, 3, Check.LEAST, Check.GREATEST};
        for (int k : out) {
            Check.due("of two, " + k, x.mendedAt(k), -1);
        }
        int[] noLot = {-1, 1, Check.LEAST, Check.GREATEST};
        for (int l : noLot) {
            Check.due("LOT " + l, x.mended(l, -1, 0, false), -1);
            Check.due("the latest stays", x.mendedAt(1), 1);
        }
        Check.due("none", x.mended(0, 0, 0, false), 0);
        Check.due("the latest is an empty one", x.mendedAt(0), -1);
    }

    private static void mendedOfAll() {
        Check.sentence("who is CALLED by t and not by s SHOULD have gone; who is CALLED by s and not by t went for NOTHING");
        LotOffice x = Check.office(60);
        x.lot(0, 60);
        Check.due("all SHOULD have gone", x.mended(0, -1, 0, false), 60);
        Check.due("the least", x.mendedAt(0), 0);
        Check.due("the greatest", x.mendedAt(59), 59);
        Check.due("behind it", x.mendedAt(60), -1);
        Check.due("none for NOTHING", x.mended(0, -1, 0, true), 0);
        Check.due("none to be told", x.mendedAt(0), -1);
        Check.due("all for NOTHING", x.mended(0, 0, -1, true), 60);
        Check.due("the greatest", x.mendedAt(59), 59);
        Check.due("none SHOULD have gone", x.mended(0, 0, -1, false), 0);
    }

    private static void mendedByBothDays() {
        LotOffice x = Check.office(4);
        x.lot(0, 2);
        x.next(3);
        x.birth(0, -40, 0);
        Check.due("AS OF the DAY ahead", x.mended(0, 0, 2, false), 0);
        Check.due("AS OF its DAY", x.mended(0, 0, 3, false), 1);
        Check.due("he", x.mendedAt(0), 2);
        Check.due("against its DAY", x.mended(0, 3, 3, true), 0);
        Check.due("against the DAY ahead", x.mended(0, 2, 3, true), 1);
        Check.due("he", x.mendedAt(0), 0);
        Check.due("held the other way round", x.mended(0, 3, 2, true), 1);
        Check.due("he", x.mendedAt(0), 2);
        Check.due("from the least to the greatest number", x.mended(0, Check.LEAST, Check.GREATEST, false), 2);
        Check.due("who is CALLED by both is neither", x.mendedAt(0), 1);
    }

    private static void appealOnItsDays() {
        Check.sentence("on TODAY, not ahead of its DAY, at most so many DAYS behind it as appeal (of THE LAW for its DAY) tells");
        LotOffice x = Check.office(3);
        Check.law(x, "appeal 2;", 0);
        Check.law(x, "appeal 1;", 5);
        Check.law(x, "appeal 3;", 6);
        x.lot(5, 1);
        x.lot(6, 1);
        x.next(4);
        Check.due("ahead of its DAY", x.appeal(0, 0), -1);
        x.next(1);
        Check.due("on its DAY", x.appeal(0, 0), 0);
        Check.due("ahead of the other one", x.appeal(1, 0), -1);
        x.next(1);
        Check.due("as many DAYS behind it", x.appeal(0, 0), 0);
        x.next(1);
        Check.due("a DAY more", x.appeal(0, 0), -1);
        x.next(2);
        Check.due("by the other law", x.appeal(1, 0), 0);
        x.next(1);
        Check.due("too late by it", x.appeal(1, 0), -1);
        Check.due("three were told", x.count(7), 3);
    }

    private static void appealNoSuchOnes() {
        Check.sentence("An APPEAL: 1 HEARD, 0 not; NONE: no such ones");
        LotOffice x = Check.office(2);
        x.lot(0, 1);
        int[] noLot = {-1, 1, Check.LEAST, Check.GREATEST};
        for (int l : noLot) {
            Check.due("LOT " + l, x.appeal(l, 0), -1);
        }
        int[] noMan = {-1, 2, Check.LEAST, Check.GREATEST};
        for (int m : noMan) {
            Check.due("man " + m, x.appeal(0, m), -1);
        }
        Check.due("none was told", x.count(7), 0);
        Check.due("the last man", x.appeal(0, 1), 0);
        Check.due("one was told", x.count(7), 1);
    }

    private static void heard() {
        Check.sentence("it is HEARD if, AS OF TODAY, one is not CALLED, but AS OF the LOT's DAY was");
        LotOffice x = Check.office(4);
        x.lot(2, 2);
        x.next(2);
        x.birth(1, -40, 0);
        Check.due("mended on the LOT's DAY", x.appeal(0, 1), 0);
        Check.due("CALLED on both", x.appeal(0, 0), 0);
        Check.due("CALLED on neither", x.appeal(0, 3), 0);
        x.next(1);
        x.birth(0, -40, 0);
        Check.due("mended on the DAY behind", x.appeal(0, 0), 1);
        Check.due("CALLED now alone", x.appeal(0, 3), 0);
        x.birth(0, -22, 1);
        Check.due("mended back", x.appeal(0, 0), 0);
        Check.due("told", x.count(7), 6);
        Check.due("HEARD", x.count(8), 1);
    }

    private static void sixtyAppeals() {
        Check.sentence("An APPEAL (60); NONE: there were 60");
        LotOffice x = Check.office(2);
        x.lot(0, 1);
        x.next(1);
        x.birth(0, -40, 0);
        for (int i = 0; i < 60; i++) {
            Check.due("one of no such man takes no place", x.appeal(0, 2), -1);
            Check.due("APPEAL " + i, x.appeal(0, i < 30 ? 0 : 1), i < 30 ? 1 : 0);
        }
        Check.due("a 61st", x.appeal(0, 0), -1);
        Check.due("60 were told", x.count(7), 60);
        Check.due("30 of them HEARD", x.count(8), 30);
    }
}
