/** The edges that the document's part 4 names, sentence by sentence: CHANCE, MIXED, DOUBT, FIELDS and LEAVES. */
public final class EdgeChanceTest {
    public static void main(String[] args) {
        noneOrAllTaken();
        oneTakenOrMarked();
        noneAmongThem();
        withoutACommonDivisor();
        mixedRefused();
        mixedByItsPicks();
        doubtOfNone();
        doubtAboveFour();
        doubtOfSixty();
        doubtAsOf();
        doubtRefused();
        handsTaken();
        handsRefused();
        handsOfEachWeek();
        handsAtLeast();
        fewerThanHandsAnyhow();
        allLaterWeeks();
        menThatAreThere();
        noMoreThanAreCalled();
        twelveBytes();
        notLessThanAhead();
        bytesAbove127();
        asSoonAsTheyMust();
        theLeastParishFirst();
        asManyAsAreTold();
        goneNoSuchOnes();
        goneByTheLatest();
        nobodyLeaves();
        sixtyLeave();
        Check.close();
    }

    private static void mixed(LotOffice x, int k, int from, int to, long... due) {
        String call = "mixed of " + k + " weeks, " + from + " to " + to + ": ";
        Check.due(call + "upper", x.mixed(0, k, from, to, 0), due[0]);
        Check.due(call + "lower", x.mixed(0, k, from, to, 1), due[1]);
        Check.due(call + "x", x.mixed(0, k, from, to, 2), due[2]);
    }

    private static void doubt(LotOffice x, int doctor, int t, long... due) {
        String call = "doubt of " + doctor + " AS OF " + t + ": ";
        Check.due(call + "upper", x.doubt(doctor, t, 0), due[0]);
        Check.due(call + "lower", x.doubt(doctor, t, 1), due[1]);
        Check.due(call + "x", x.doubt(doctor, t, 2), due[2]);
    }

    private static LotOffice lot() {
        LotOffice x = new LotOffice();
        x.lot(0, 0);
        return x;
    }

    private static void noneOrAllTaken() {
        Check.sentence("k of them taken at random out of n (n 52; k 0 to 52)");
        LotOffice x = lot();
        mixed(x, 0, 0, 51, 1, 1, 0);
        mixed(x, 0, 0, 0, 1, 1, 0);
        mixed(x, 0, 51, 51, 1, 1, 0);
        mixed(x, 52, 0, 51, 1, 1, 52);
        mixed(x, 52, 0, 0, 1, 1, 1);
        mixed(x, 52, 51, 51, 1, 1, 1);
        mixed(x, 1, 0, 51, 1, 1, 1);
        mixed(x, 51, 0, 51, 1, 1, 51);
    }

    private static void oneTakenOrMarked() {
        Check.sentence("of which m are marked, x or more are marked");
        LotOffice x = lot();
        mixed(x, 1, 0, 0, 1, 52, 1);
        mixed(x, 1, 0, 50, 51, 52, 1);
        mixed(x, 51, 0, 0, 51, 52, 1);
        mixed(x, 51, 50, 50, 51, 52, 1);
        mixed(x, 51, 0, 50, 1, 52, 51);
        mixed(x, 50, 49, 49, 25, 26, 1);
        // both of two: 1 in 52 * 51 / 2; one or both of two among the first two: 1 - 50 * 49 / (52 * 51)
        mixed(x, 2, 0, 1, 1, 1326, 2);
        mixed(x, 2, 1, 2, 101, 1326, 1);
    }

    private static void noneAmongThem() {
        Check.sentence("x as many as there are: 0 or more is sure");
        LotOffice x = lot();
        mixed(x, 1, 1, 1, 1, 1, 0);
        mixed(x, 1, 1, 51, 1, 1, 0);
        mixed(x, 51, 51, 51, 1, 1, 0);
        mixed(x, 26, 26, 51, 1, 1, 0);
    }

    private static void withoutACommonDivisor() {
        Check.sentence("an exact fraction, told by two numbers without a divisor in common");
        LotOffice x = lot();
        mixed(x, 26, 0, 25, 1, 495918532948104L, 26);
        mixed(x, 25, 0, 24, 1, 477551179875952L, 25);
        mixed(x, 27, 0, 26, 1, 477551179875952L, 27);
        mixed(x, 26, 0, 0, 1, 2, 1);
        mixed(x, 13, 0, 0, 1, 4, 1);
        mixed(x, 4, 0, 0, 1, 13, 1);
        // one or two of two marked among 26 taken: 1 - 26 * 25 / (52 * 51)
        mixed(x, 26, 25, 26, 77, 102, 1);
    }

    private static void mixedRefused() {
        Check.sentence("NoSuchElementException: no such LOT, weeks, k, or another what");
        LotOffice none = new LotOffice();
        Check.refused("without LOTS", () -> none.mixed(0, 0, 0, 0, 0));
        LotOffice x = lot();
        int[] noLot = {-1, 1, 4, Check.LEAST, Check.GREATEST};
        for (int l : noLot) {
            Check.refused("LOT " + l, () -> x.mixed(l, 0, 0, 0, 0));
        }
        int[] noK = {-1, 53, Check.LEAST, Check.GREATEST};
        for (int k : noK) {
            Check.refused("k " + k, () -> x.mixed(0, k, 0, 0, 0));
        }
        int[] noWeek = {-1, 52, Check.LEAST, Check.GREATEST};
        for (int week : noWeek) {
            Check.refused("from " + week, () -> x.mixed(0, 0, week, 51, 0));
            Check.refused("to " + week, () -> x.mixed(0, 0, 0, week, 0));
            Check.refused("from and to " + week, () -> x.mixed(0, 0, week, week, 0));
        }
        Check.refused("from 1 to 0", () -> x.mixed(0, 0, 1, 0, 0));
        Check.refused("from 51 to 50", () -> x.mixed(0, 0, 51, 50, 0));
        int[] noWhat = {-1, 3, Check.LEAST, Check.GREATEST};
        for (int what : noWhat) {
            Check.refused("what " + what, () -> x.mixed(0, 0, 0, 0, what));
        }
        mixed(x, 52, 51, 51, 1, 1, 1);
    }

    private static void mixedByItsPicks() {
        Check.sentence("of a LOT's first k weeks picked, those from a week to another one are marked");
        LotOffice x = lot();
        x.lot(0, 0);
        Check.tape(x, Check.downFrom(52));
        x.weeks(0);
        mixed(x, 1, 51, 51, 1, 52, 1);
        mixed(x, 1, 0, 50, 1, 1, 0);
        mixed(x, 51, 0, 0, 1, 1, 0);
        mixed(x, 52, 0, 0, 1, 1, 1);
        mixed(x, 51, 1, 1, 51, 52, 1);
        Check.due("the other LOT is without picks", x.mixed(1, 1, 0, 0, 2), 1);
    }

    private static void doubtOfNone() {
        Check.sentence("n all EXAMS KNOWN: none of them, or none by this DOCTOR");
        LotOffice x = new LotOffice();
        for (int doctor = 0; doctor < 8; doctor++) {
            doubt(x, doctor, 0, 1, 1, 0);
        }
        Check.man(x, "a", 0, 0);
        x.exam(0, 3, 9);
        doubt(x, 3, 0, 1, 1, 1);
        doubt(x, 4, 0, 1, 1, 0);
        x.exam(0, 4, 0);
        doubt(x, 3, 0, 1, 2, 1);
        doubt(x, 4, 0, 1, 1, 0);
    }

    private static void doubtAboveFour() {
        Check.sentence("m those with a GRADE above 4");
        LotOffice x = new LotOffice();
        Check.man(x, "a", 0, 0);
        for (int grade = 0; grade < 10; grade++) {
            x.exam(0, grade < 4 ? 0 : grade < 6 ? 1 : 2, grade);
        }
        doubt(x, 0, 0, 1, 1, 0);
        // 4 and 5: one or both of 2 taken are among 5 marked of 10: 1 - 10 / 45
        doubt(x, 1, 0, 7, 9, 1);
        // 6, 7, 8, 9: 4 of 4 among 5 of 10: 5 / 210
        doubt(x, 2, 0, 1, 42, 4);
    }

    private static void doubtOfSixty() {
        Check.sentence("EXAMS (60); k those by this DOCTOR, x those of them above 4");
        LotOffice x = new LotOffice();
        Check.man(x, "a", 0, 0);
        for (int i = 0; i < 60; i++) {
            x.exam(0, i < 30 ? 7 : 0, i < 30 ? 9 : 4);
        }
        doubt(x, 7, 0, 1, 118264581564861424L, 30);
        doubt(x, 0, 0, 1, 1, 0);
        LotOffice y = new LotOffice();
        Check.man(y, "a", 0, 0);
        for (int i = 0; i < 60; i++) {
            y.exam(0, 5, 5);
        }
        doubt(y, 5, 0, 1, 1, 60);
        doubt(y, 4, 0, 1, 1, 0);
        LotOffice z = new LotOffice();
        Check.man(z, "a", 0, 0);
        for (int i = 0; i < 60; i++) {
            z.exam(0, i == 59 ? 1 : 0, i == 59 ? 5 : 4);
        }
        doubt(z, 1, 0, 1, 60, 1);
        doubt(z, 0, 0, 1, 1, 0);
    }

    private static void doubtAsOf() {
        Check.sentence("DOUBT of a DOCTOR AS OF t");
        LotOffice x = new LotOffice();
        Check.man(x, "a", 0, 0);
        x.exam(0, 0, 9);
        x.next(1);
        x.exam(0, 1, 0);
        x.next(1);
        x.exam(0, 1, 0);
        doubt(x, 0, Check.LEAST, 1, 1, 0);
        doubt(x, 0, -1, 1, 1, 0);
        doubt(x, 0, 0, 1, 1, 1);
        doubt(x, 0, 1, 1, 2, 1);
        doubt(x, 0, 2, 1, 3, 1);
        doubt(x, 0, Check.GREATEST, 1, 3, 1);
    }

    private static void doubtRefused() {
        Check.sentence("NoSuchElementException: no such DOCTOR, or another what");
        LotOffice x = new LotOffice();
        int[] noDoctor = {-1, 8, Check.LEAST, Check.GREATEST};
        for (int doctor : noDoctor) {
            Check.refused("DOCTOR " + doctor, () -> x.doubt(doctor, 0, 0));
        }
        int[] noWhat = {-1, 3, Check.LEAST, Check.GREATEST};
        for (int what : noWhat) {
            Check.refused("what " + what, () -> x.doubt(0, 0, what));
            Check.refused("what " + what + " of DOCTOR 7", () -> x.doubt(7, 0, what));
        }
        doubt(x, 7, 0, 1, 1, 0);
    }

    /** So many men of each PARISH, and a LOT that calls all. */
    private static LotOffice office(int... of) {
        LotOffice x = new LotOffice();
        for (int p = 0; p < of.length; p++) {
            Check.men(x, of[p], p);
        }
        x.lot(0, 60);
        return x;
    }

    private static int leaves(LotOffice x, int... told) {
        Check.tape(x, told);
        int can = x.leaves(0, 0);
        Check.due("an empty tape", x.count(9), 0);
        return can;
    }

    /** The last one of these for all weeks behind, too. */
    private static void gone(LotOffice x, int parish, int... due) {
        for (int w = 0; w < 12; w++) {
            Check.due("gone of " + parish + " by week " + w, x.gone(parish, w), due[Math.min(w, due.length - 1)]);
        }
    }

    private static void handsTaken() {
        Check.sentence("HANDS in a PARISH in a week (0 to 11) are n (0 to 60): true");
        LotOffice x = office(1);
        Check.due("the first PARISH, the first week, none", x.hands(0, 0, 0), true);
        Check.due("the last PARISH, the last week, all", x.hands(7, 11, 60), true);
        Check.due("one", x.hands(0, 11, 1), true);
        Check.due("it counts", leaves(x, Check.like(12, 1)), 0);
        Check.due("told anew", x.hands(0, 11, 0), true);
        Check.due("it counts, too", leaves(x, Check.like(12, 1)), 1);
    }

    private static void handsRefused() {
        Check.sentence("HANDS in a PARISH in a week (0 to 11) are n (0 to 60): false: not as told");
        LotOffice x = office(1);
        int[] noParish = {-1, 8, Check.LEAST, Check.GREATEST};
        for (int p : noParish) {
            Check.due("PARISH " + p, x.hands(p, 0, 1), false);
        }
        int[] noWeek = {-1, 12, Check.LEAST, Check.GREATEST};
        for (int week : noWeek) {
            Check.due("week " + week, x.hands(0, week, 1), false);
        }
        int[] none = {-1, 61, Check.LEAST, Check.GREATEST};
        for (int n : none) {
            Check.due(n + " HANDS", x.hands(0, 0, n), false);
        }
        Check.due("none of them counts", leaves(x, Check.like(12, 1)), 1);
    }

    private static void handsOfEachWeek() {
        Check.sentence("HANDS needed in a PARISH in each of 12 weeks behind a LOT (0 at first)");
        for (int week = 0; week < 12; week++) {
            LotOffice x = office(2, 1);
            Check.due("0 at first", leaves(x, Check.like(12, 3)), 1);
            x.hands(0, week, 2);
            Check.due("two in week " + week, leaves(x, Check.like(12, 3)), 0);
            for (int w = 0; w < 12; w++) {
                Check.due("gone by " + w, x.gone(0, w), w <= week ? 0 : 2);
                Check.due("of the other PARISH by " + w, x.gone(1, w), 1);
            }
        }
    }

    private static void handsAtLeast() {
        Check.sentence("its men less those gone are HANDS at least");
        for (int hands = 0; hands < 5; hands++) {
            LotOffice x = office(4);
            x.hands(0, 11, hands);
            Check.due("as many as may go with " + hands, leaves(x, Check.like(12, 4 - hands)), 1);
            gone(x, 0, 4 - hands);
            Check.due("one more with " + hands, leaves(x, Check.like(12, 5 - hands)), 0);
            gone(x, 0, 4 - hands);
        }
    }

    private static void fewerThanHandsAnyhow() {
        Check.sentence("(none, if they are fewer than HANDS anyhow)");
        LotOffice x = office(4, 2);
        x.hands(0, 3, 5);
        Check.due("one fewer, by week 3", leaves(x, 0, 0, 0, 0, 4, 4, 4, 4, 4, 4, 4, 6), 1);
        gone(x, 0, 0, 0, 0, 0, 4);
        gone(x, 1, 0, 0, 0, 0, 0, 0, 0, 0, 0, 0, 0, 2);
        x.hands(0, 11, 60);
        Check.due("far fewer, in all weeks: the other PARISH goes", leaves(x, 1, 2, 2, 2, 2, 2, 2, 2, 2, 2, 2, 2), 1);
        gone(x, 0, 0);
        gone(x, 1, 1, 2);
        x.hands(1, 11, 60);
        Check.due("none goes", leaves(x, Check.like(12, 0)), 1);
        Check.due("not one can", leaves(x, 0, 0, 0, 0, 0, 0, 0, 0, 0, 0, 0, 1), 0);
    }

    private static void allLaterWeeks() {
        Check.sentence("as many may be gone by week w that in w and all later ones its men less those gone are HANDS at least");
        LotOffice x = office(5);
        x.hands(0, 0, 5);
        x.hands(0, 4, 3);
        x.hands(0, 8, 4);
        x.hands(0, 11, 1);
        Check.due("each week as many as may", leaves(x, 0, 1, 1, 1, 1, 1, 1, 1, 1, 4, 4, 4), 1);
        gone(x, 0, 0, 1, 1, 1, 1, 1, 1, 1, 1, 4);
        Check.due("one in week 0", leaves(x, 1, 1, 1, 1, 1, 1, 1, 1, 1, 4, 4, 4), 0);
        gone(x, 0, 0, 1, 1, 1, 1, 1, 1, 1, 1, 4);
        Check.due("two ahead of week 8", leaves(x, 0, 1, 1, 1, 1, 1, 1, 1, 2, 4, 4, 4), 0);
        Check.due("five in the last week", leaves(x, 0, 1, 1, 1, 1, 1, 1, 1, 1, 4, 4, 5), 0);
        gone(x, 0, 0, 1, 1, 1, 1, 1, 1, 1, 1, 4);
    }

    private static void menThatAreThere() {
        Check.sentence("its men (all that are there, mere NAMES left out)");
        LotOffice x = office(2);
        Check.man(x, "old", 0, 9, -60, 0);
        Check.man(x, "lost", 0, 9);
        Check.man(x, "afar", 1, 9, -21, 51);
        x.hands(0, 11, 1);
        Check.due("the old one is a HAND", leaves(x, Check.like(12, 3)), 1);
        gone(x, 0, 2);
        gone(x, 1, 1);
        x.same(0, 2);
        Check.due("a mere NAME is none", leaves(x, Check.like(12, 2)), 1);
        gone(x, 0, 1);
        Check.due("nor can more go", leaves(x, Check.like(12, 3)), 0);
        x.birth(3, -60, 0);
        Check.due("one who is there now", leaves(x, Check.like(12, 3)), 1);
        gone(x, 0, 2);
    }

    private static void noMoreThanAreCalled() {
        Check.sentence("and no more than are CALLED");
        LotOffice x = new LotOffice();
        Check.men(x, 3, 0);
        Check.men(x, 3, 7);
        x.lot(0, 3);
        Check.due("CALLED of PARISH 0", x.quota(0, 0, 0), 2);
        Check.due("CALLED of PARISH 7", x.quota(0, 7, 0), 1);
        Check.due("all that are CALLED", leaves(x, Check.like(12, 3)), 1);
        gone(x, 0, 2);
        gone(x, 7, 1);
        Check.due("one more", leaves(x, Check.like(12, 4)), 0);
        gone(x, 0, 2);
        gone(x, 7, 1);
    }

    private static void twelveBytes() {
        Check.sentence("the tape's 12 bytes being TOLD; NONE: no such LOT, other bytes");
        LotOffice x = office(1);
        int[] none = {0, 1, 11, 13, 24, 340};
        for (int n : none) {
            Check.due(n + " bytes", leaves(x, Check.like(n, 0)), -1);
        }
        int[] noLot = {-1, 1, 4, Check.LEAST, Check.GREATEST};
        for (int l : noLot) {
            Check.tape(x, Check.like(12, 0));
            Check.due("LOT " + l, x.leaves(l, 0), -1);
            Check.due("an empty tape", x.count(9), 0);
        }
        Check.due("none was told", x.gone(0, 0), -1);
        Check.due("12 bytes", leaves(x, Check.like(12, 0)), 1);
        Check.due("now one was", x.gone(0, 0), 0);
    }

    private static void notLessThanAhead() {
        Check.sentence("(not less than for the week ahead); NONE: one less than that ahead");
        for (int week = 1; week < 12; week++) {
            LotOffice x = office(2);
            int[] told = Check.like(12, 1);
            told[week] = 0;
            Check.due("one less in week " + week, leaves(x, told), -1);
            Check.due("none was told", x.gone(0, 0), -1);
            told = Check.like(12, 0);
            for (int w = week; w < 12; w++) {
                told[w] = 1;
            }
            Check.due("one more from week " + week + " on", leaves(x, told), 1);
            Check.due("gone by the week ahead", x.gone(0, week - 1), 0);
            Check.due("gone by it", x.gone(0, week), 1);
        }
    }

    private static void bytesAbove127() {
        LotOffice x = office(1);
        Check.due("127, then 128 is not less", leaves(x, 0, 0, 0, 0, 0, 0, 0, 0, 0, 0, 127, 128), 0);
        Check.due("128, then 127 is", leaves(x, 0, 0, 0, 0, 0, 0, 0, 0, 0, 0, 128, 127), -1);
        Check.due("0, then 255 is not less", leaves(x, 0, 0, 0, 0, 0, 0, 0, 0, 0, 0, 0, 255), 0);
        Check.due("255, then 0 is", leaves(x, 0, 0, 0, 0, 0, 0, 0, 0, 0, 0, 255, 0), -1);
        Check.due("255 all the time", leaves(x, Check.like(12, 255)), 0);
        gone(x, 0, 1);
    }

    private static void asSoonAsTheyMust() {
        Check.sentence("they go as soon as they must, week by week");
        LotOffice x = office(12);
        Check.due("one a week", leaves(x, 1, 2, 3, 4, 5, 6, 7, 8, 9, 10, 11, 12), 1);
        gone(x, 0, 1, 2, 3, 4, 5, 6, 7, 8, 9, 10, 11, 12);
        Check.due("all in the first week", leaves(x, Check.like(12, 12)), 1);
        gone(x, 0, 12);
        Check.due("all in the last week", leaves(x, 0, 0, 0, 0, 0, 0, 0, 0, 0, 0, 0, 12), 1);
        gone(x, 0, 0, 0, 0, 0, 0, 0, 0, 0, 0, 0, 0, 12);
        Check.due("nobody", leaves(x, Check.like(12, 0)), 1);
        gone(x, 0, 0);
    }

    private static void theLeastParishFirst() {
        Check.sentence("PARISH by PARISH (the least first, as many as may be gone by then)");
        LotOffice x = office(2, 0, 1, 0, 0, 0, 0, 2);
        x.hands(0, 5, 1);
        Check.due("it can be", leaves(x, 1, 2, 3, 3, 3, 3, 4, 5, 5, 5, 5, 5), 1);
        gone(x, 0, 1, 1, 1, 1, 1, 1, 2);
        gone(x, 2, 0, 1);
        gone(x, 7, 0, 0, 1, 1, 1, 1, 1, 2);
        gone(x, 1, 0);
        Check.due("all at once but one", leaves(x, 4, 4, 4, 4, 4, 4, 5, 5, 5, 5, 5, 5), 1);
        gone(x, 0, 1, 1, 1, 1, 1, 1, 2);
        gone(x, 2, 1);
        gone(x, 7, 2);
    }

    private static void asManyAsAreTold() {
        Check.sentence("It can be, if as many are gone in each week as are told");
        LotOffice x = office(3);
        x.hands(0, 0, 3);
        Check.due("none in week 0", leaves(x, 0, 3, 3, 3, 3, 3, 3, 3, 3, 3, 3, 3), 1);
        Check.due("one fewer in week 0 alone", leaves(x, 1, 3, 3, 3, 3, 3, 3, 3, 3, 3, 3, 3), 0);
        gone(x, 0, 0, 3);
        Check.due("one fewer in the last week alone", leaves(x, 0, 3, 3, 3, 3, 3, 3, 3, 3, 3, 3, 4), 0);
        gone(x, 0, 0, 3);
    }

    private static void goneNoSuchOnes() {
        Check.sentence("How many of a PARISH are gone by a week; NONE: no such ones, or ahead of any");
        LotOffice x = office(0, 0, 0, 0, 0, 0, 0, 1);
        Check.due("ahead of any", x.gone(7, 11), -1);
        Check.due("one goes", leaves(x, 0, 0, 0, 0, 0, 0, 0, 0, 0, 0, 0, 1), 1);
        int[] noParish = {-1, 8, Check.LEAST, Check.GREATEST};
        for (int p : noParish) {
            Check.due("PARISH " + p, x.gone(p, 0), -1);
        }
        int[] noWeek = {-1, 12, Check.LEAST, Check.GREATEST};
        for (int week : noWeek) {
            Check.due("week " + week, x.gone(0, week), -1);
        }
        Check.due("the first PARISH, the first week", x.gone(0, 0), 0);
        Check.due("the last PARISH, the last week", x.gone(7, 11), 1);
        Check.due("the last PARISH, the last week but one", x.gone(7, 10), 0);
    }

    private static void goneByTheLatest() {
        Check.sentence("by the latest leaves() that was not NONE");
        LotOffice x = office(2);
        Check.due("two", leaves(x, Check.like(12, 2)), 1);
        Check.due("refused", leaves(x, Check.like(11, 0)), -1);
        gone(x, 0, 2);
        Check.due("one that can't be is told all the same", leaves(x, Check.like(12, 3)), 0);
        gone(x, 0, 2);
        Check.due("one", leaves(x, Check.like(12, 1)), 1);
        x.hands(0, 11, 60);
        x.birth(0, -50, 0);
        gone(x, 0, 1);
    }

    private static void nobodyLeaves() {
        Check.sentence("LEAVES of a LOT for which nobody is CALLED");
        LotOffice x = new LotOffice();
        x.lot(0, 0);
        Check.due("none goes", leaves(x, Check.like(12, 0)), 1);
        Check.due("one can't", leaves(x, 0, 0, 0, 0, 0, 0, 0, 0, 0, 0, 0, 1), 0);
        Check.men(x, 2, 0);
        Check.due("none WANTED: none goes", leaves(x, Check.like(12, 0)), 1);
        Check.due("one can't", leaves(x, Check.like(12, 1)), 0);
        gone(x, 0, 0);
    }

    private static void sixtyLeave() {
        Check.sentence("LEAVES of a LOT for which all of 60 are CALLED");
        LotOffice x = Check.office(60);
        x.lot(0, 60);
        Check.due("all go", leaves(x, Check.like(12, 60)), 1);
        gone(x, 0, 60);
        Check.due("61 can't", leaves(x, Check.like(12, 61)), 0);
        x.hands(0, 0, 60);
        Check.due("none by the first week", leaves(x, 0, 60, 60, 60, 60, 60, 60, 60, 60, 60, 60, 60), 1);
        Check.due("not one", leaves(x, 1, 60, 60, 60, 60, 60, 60, 60, 60, 60, 60, 60), 0);
        gone(x, 0, 0, 60);
    }
}
