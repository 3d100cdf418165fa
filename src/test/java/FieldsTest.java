/** Promises 15, 31 and 32: HANDS, LEAVES, and who is gone by which week. */
public final class FieldsTest {
    public static void main(String[] args) {
        hands();
        tapesRefused();
        asSoonAsTheyMust();
        parishByParish();
        handsOfLaterWeeks();
        menThatAreThere();
        moreThanMayGo();
        Check.close();
    }

    /** So many men of AGE 21 in PARISHES 0, 1 and so on, and a LOT that calls them all. */
    private static LotOffice office(int... of) {
        LotOffice x = new LotOffice();
        for (int p = 0; p < of.length; p++) {
            for (int i = 0; i < of[p]; i++) {
                Check.man(x, "a", p, 0, -21, 0);
            }
        }
        x.lot(0, 60);
        return x;
    }

    private static int leaves(LotOffice x, int l, int t, int... told) {
        Check.tape(x, told);
        int can = x.leaves(l, t);
        Check.due("the tape is empty", x.count(9), 0);
        return can;
    }

    private static void gone(LotOffice x, int parish, int... due) {
        for (int w = 0; w < 12; w++) {
            Check.due("gone of " + parish + " by week " + w, x.gone(parish, w), due[w]);
        }
    }

    private static void hands() {
        LotOffice x = new LotOffice();
        Check.due("PARISH -1", x.hands(-1, 0, 0), false);
        Check.due("PARISH 8", x.hands(8, 0, 0), false);
        Check.due("week -1", x.hands(0, -1, 0), false);
        Check.due("week 12", x.hands(0, 12, 0), false);
        Check.due("-1 HANDS", x.hands(0, 0, -1), false);
        Check.due("61 HANDS", x.hands(0, 0, 61), false);
        Check.due("60 HANDS", x.hands(7, 11, 60), true);
        Check.due("told anew", x.hands(7, 11, 0), true);
    }

    private static void tapesRefused() {
        LotOffice x = office(2);
        Check.due("ahead of any", x.gone(0, 0), -1);
        Check.due("11 bytes", leaves(x, 0, 0, 0, 0, 0, 0, 0, 0, 0, 0, 0, 0, 0), -1);
        Check.due("13 bytes", leaves(x, 0, 0, 0, 0, 0, 0, 0, 0, 0, 0, 0, 0, 0, 0, 0), -1);
        Check.due("no bytes", leaves(x, 0, 0), -1);
        Check.due("one less", leaves(x, 0, 0, 0, 0, 1, 1, 1, 1, 1, 1, 1, 1, 1, 0), -1);
        Check.due("LOT 1", leaves(x, 1, 0, 0, 0, 0, 0, 0, 0, 0, 0, 0, 0, 0, 1), -1);
        Check.due("LOT -1", leaves(x, -1, 0, 0, 0, 0, 0, 0, 0, 0, 0, 0, 0, 0, 1), -1);
        Check.due("still none", x.gone(0, 0), -1);
        Check.due("it can be", leaves(x, 0, 0, 0, 0, 0, 0, 0, 0, 0, 0, 0, 0, 0, 1), 1);
        gone(x, 0, 0, 0, 0, 0, 0, 0, 0, 0, 0, 0, 0, 1);
        Check.due("refused", leaves(x, 0, 0, 2, 0, 0, 0, 0, 0, 0, 0, 0, 0, 0, 1), -1);
        gone(x, 0, 0, 0, 0, 0, 0, 0, 0, 0, 0, 0, 0, 1);
        Check.due("PARISH -1", x.gone(-1, 0), -1);
        Check.due("PARISH 8", x.gone(8, 0), -1);
        Check.due("week -1", x.gone(0, -1), -1);
        Check.due("week 12", x.gone(0, 12), -1);
        Check.due("the last week", x.gone(7, 11), 0);
    }

    private static void asSoonAsTheyMust() {
        LotOffice x = office(5);
        Check.due("it can be", leaves(x, 0, 0, 0, 1, 1, 3, 3, 3, 3, 5, 5, 5, 5, 5), 1);
        gone(x, 0, 0, 1, 1, 3, 3, 3, 3, 5, 5, 5, 5, 5);
        Check.due("all at once", leaves(x, 0, 0, 5, 5, 5, 5, 5, 5, 5, 5, 5, 5, 5, 5), 1);
        gone(x, 0, 5, 5, 5, 5, 5, 5, 5, 5, 5, 5, 5, 5);
        Check.due("nothing KNOWN", leaves(x, 0, -1, 0, 0, 0, 0, 0, 0, 0, 0, 0, 0, 0, 1), 0);
        gone(x, 0, 0, 0, 0, 0, 0, 0, 0, 0, 0, 0, 0, 0);
    }

    private static void parishByParish() {
        LotOffice x = office(2, 3, 1);
        x.hands(0, 4, 1);
        Check.due("it can be", leaves(x, 0, 0, 2, 2, 2, 4, 4, 5, 5, 5, 6, 6, 6, 6), 1);
        gone(x, 0, 1, 1, 1, 1, 1, 2, 2, 2, 2, 2, 2, 2);
        gone(x, 1, 1, 1, 1, 3, 3, 3, 3, 3, 3, 3, 3, 3);
        gone(x, 2, 0, 0, 0, 0, 0, 0, 0, 0, 1, 1, 1, 1);
        gone(x, 3, 0, 0, 0, 0, 0, 0, 0, 0, 0, 0, 0, 0);
    }

    private static void handsOfLaterWeeks() {
        LotOffice x = office(6);
        x.hands(0, 2, 3);
        x.hands(0, 5, 5);
        x.hands(0, 8, 2);
        Check.due("it can not be", leaves(x, 0, 0, 6, 6, 6, 6, 6, 6, 6, 6, 6, 6, 6, 6), 0);
        gone(x, 0, 1, 1, 1, 1, 1, 1, 4, 4, 4, 6, 6, 6);
        Check.due("just as they may", leaves(x, 0, 0, 1, 1, 1, 1, 1, 1, 4, 4, 4, 6, 6, 6), 1);
        Check.due("one too many in one week", leaves(x, 0, 0, 1, 1, 1, 1, 1, 2, 4, 4, 4, 6, 6, 6), 0);
        gone(x, 0, 1, 1, 1, 1, 1, 1, 4, 4, 4, 6, 6, 6);
        x.hands(0, 5, 7);
        Check.due("fewer than HANDS anyhow", leaves(x, 0, 0, 0, 0, 0, 0, 0, 0, 4, 4, 4, 6, 6, 6), 1);
        x.hands(0, 11, 60);
        Check.due("to the last week", leaves(x, 0, 0, 0, 0, 0, 0, 0, 0, 0, 0, 0, 0, 0, 1), 0);
        gone(x, 0, 0, 0, 0, 0, 0, 0, 0, 0, 0, 0, 0, 0);
    }

    private static void menThatAreThere() {
        LotOffice x = new LotOffice();
        for (int m = 0; m < 6; m++) {
            Check.man(x, "a", 0, 0, m < 3 ? -21 : -50, 0);
        }
        Check.man(x, "a", 0, 0);
        x.lot(0, 2);
        x.hands(0, 0, 5);
        Check.due("old ones are HANDS, too; two are CALLED", leaves(x, 0, 0, 1, 2, 2, 2, 2, 2, 2, 2, 2, 2, 2, 2), 1);
        gone(x, 0, 1, 2, 2, 2, 2, 2, 2, 2, 2, 2, 2, 2);
        Check.due("no more than are CALLED", leaves(x, 0, 0, 1, 3, 3, 3, 3, 3, 3, 3, 3, 3, 3, 3), 0);
        x.next(1);
        x.same(3, 4);
        Check.due("a mere NAME is no HAND", leaves(x, 0, 1, 1, 2, 2, 2, 2, 2, 2, 2, 2, 2, 2, 2), 0);
        gone(x, 0, 0, 2, 2, 2, 2, 2, 2, 2, 2, 2, 2, 2);
        Check.due("AS OF 0 it was", leaves(x, 0, 0, 1, 2, 2, 2, 2, 2, 2, 2, 2, 2, 2, 2), 1);
    }

    private static void moreThanMayGo() {
        LotOffice x = office(1, 1);
        Check.due("255", leaves(x, 0, 0, 0, 0, 0, 0, 0, 0, 0, 0, 0, 0, 0, 255), 0);
        gone(x, 0, 0, 0, 0, 0, 0, 0, 0, 0, 0, 0, 0, 1);
        gone(x, 1, 0, 0, 0, 0, 0, 0, 0, 0, 0, 0, 0, 1);
        Check.due("127 is less than 128", leaves(x, 0, 0, 0, 0, 0, 0, 0, 0, 0, 0, 0, 0, 127, 128), 0);
        Check.due("128 is more than 127", leaves(x, 0, 0, 0, 0, 0, 0, 0, 0, 0, 0, 0, 0, 128, 127), -1);
    }
}
