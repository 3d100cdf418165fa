/** Promises 24 to 28: others SENT, chains, MENDED lists and APPEALS. */
public final class SentTest {
    public static void main(String[] args) {
        whoMaySend();
        whoMayBeSent();
        whatTheLawTellsOfSending();
        chains();
        thoseNoMoreThere();
        sixtySent();
        mended();
        mendedByOrderOfNumbers();
        appeals();
        appealDays();
        sixtyAppeals();
        Check.close();
    }

    /** Men 0 .. n-1 of AGE 21 in one PARISH, each later in his YEAR, none a BROTHER of another one. */
    private static LotOffice office(int n) {
        LotOffice x = new LotOffice();
        for (int m = 0; m < n; m++) {
            Check.man(x, "a", 0, m, -22, 1 + m % 51);
        }
        return x;
    }

    private static void whoMaySend() {
        LotOffice x = office(6);
        x.lot(3, 2);
        Check.due("ahead of its DAY", x.send(0, 0, 4), false);
        x.next(3);
        Check.due("LOT 1", x.send(1, 0, 4), false);
        Check.due("LOT -1", x.send(-1, 0, 4), false);
        Check.due("man -1", x.send(0, -1, 4), false);
        Check.due("man 6", x.send(0, 6, 4), false);
        Check.due("not CALLED", x.send(0, 2, 4), false);
        Check.due("CALLED", x.send(0, 0, 4), true);
        Check.due("has sent", x.send(0, 0, 5), false);
        Check.due("who was SENT", x.send(0, 4, 5), true);
        Check.due("has sent, too", x.send(0, 4, 3), false);
        Check.due("two", x.count(6), 2);
        x.lot(3, 2);
        Check.due("another LOT has its own", x.send(1, 0, 4), true);
        Check.due("he was not SENT in LOT 1 by 4", x.send(1, 5, 3), false);
        x.next(100);
        Check.due("far behind its DAY", x.send(0, 1, 3), true);
    }

    private static void whoMayBeSent() {
        LotOffice x = office(6);
        Check.law(x, "free if hides;later 3 if school;", 0);
        x.fact(2, 4, 1, 0, 9);
        x.fact(3, 3, 1, 0, 9);
        int young = Check.man(x, "y", 0, 9, -5, 0);
        int none = Check.man(x, "n", 0, 9);
        x.lot(0, 3);
        Check.due("himself", x.send(0, 0, 0), false);
        Check.due("man 8", x.send(0, 0, 8), false);
        Check.due("man -1", x.send(0, 0, -1), false);
        Check.due("another one CALLED", x.send(0, 0, 1), false);
        Check.due("free", x.send(0, 0, 2), false);
        Check.due("put off", x.send(0, 0, 3), false);
        Check.due("not there", x.send(0, 0, none), false);
        Check.due("not of age", x.send(0, 0, young), true);
        Check.due("who was SENT", x.send(0, 1, young), false);
        Check.due("not reached", x.send(0, 1, 5), true);
        Check.due("who has sent", x.send(0, young, 0), false);
        Check.due("back to who was SENT", x.send(0, young, 5), false);
        Check.due("two", x.count(6), 2);
    }

    private static void whatTheLawTellsOfSending() {
        LotOffice x = office(6);
        x.fact(0, 0, 1, 0, 9);
        x.fact(1, 0, 2, 0, 9);
        x.fact(5, 0, 2, 0, 9);
        Check.law(x, "send not if trade = 1;send if trade < 3;send not;", 0);
        x.lot(0, 3);
        Check.due("not with trade 1", x.send(0, 0, 5), false);
        Check.due("the second LINE", x.send(0, 1, 4), true);
        Check.due("of the one who sends, SENT or not", x.send(0, 4, 5), true);
        x.next(1);
        x.fact(2, 0, 3, 0, 9);
        Check.due("the last LINE", x.send(0, 2, 3), false);
        x.next(1);
        x.fact(2, 0, 0, 0, 9);
        Check.due("as is KNOWN TODAY", x.send(0, 2, 3), true);
        LotOffice y = office(4);
        Check.law(y, "send not;", 1);
        y.lot(0, 1);
        y.lot(1, 1);
        y.next(1);
        Check.due("the law of its DAY", y.send(0, 0, 2), true);
        Check.due("of the other DAY", y.send(1, 0, 2), false);
        Check.law(y, "send not if age > 0;", 1);
        Check.due("still not", y.send(1, 0, 2), false);
        Check.law(y, "send not if serving = 7;", 1);
        Check.due("without a LINE that holds everybody may", y.send(1, 0, 2), true);
    }

    private static void chains() {
        LotOffice x = office(5);
        x.lot(0, 2);
        Check.due("alone", x.serves(0, 0, 0), 0);
        x.send(0, 0, 2);
        Check.due("another one", x.serves(0, 0, 0), 2);
        x.next(2);
        x.send(0, 2, 3);
        x.next(2);
        x.send(0, 3, 4);
        Check.due("AS OF 1", x.serves(0, 0, 1), 2);
        Check.due("AS OF 2", x.serves(0, 0, 2), 3);
        Check.due("AS OF 3", x.serves(0, 0, 3), 3);
        Check.due("AS OF 4", x.serves(0, 0, 4), 4);
        Check.due("the other one for himself", x.serves(0, 1, 4), 1);
        Check.due("not CALLED", x.serves(0, 2, 4), -1);
        Check.due("nothing KNOWN", x.serves(0, 0, -1), -1);
        Check.due("man 5", x.serves(0, 5, 4), -1);
        Check.due("man -1", x.serves(0, -1, 4), -1);
        Check.due("LOT 1", x.serves(1, 0, 4), -1);
        x.lot(4, 2);
        Check.due("no chain of another LOT", x.serves(1, 0, 4), 0);
        x.birth(0, -40, 0);
        Check.due("no more CALLED", x.serves(0, 0, 4), -1);
        Check.due("the one behind him is, his chain is the rest", x.serves(0, 2, 4), 4);
    }

    private static void thoseNoMoreThere() {
        LotOffice x = office(6);
        x.lot(0, 1);
        x.send(0, 0, 2);
        x.next(1);
        x.same(1, 2);
        Check.due("a mere NAME may not send on", x.send(0, 2, 3), false);
        Check.due("it was SENT all the same", x.serves(0, 0, 1), 2);
        Check.due("a mere NAME may not be SENT", x.send(0, 0, 2), false);
        LotOffice y = office(3);
        y.lot(0, 1);
        y.send(0, 0, 1);
        y.next(1);
        y.birth(0, -40, 0);
        Check.due("he is CALLED himself now", y.serves(0, 1, 1), 1);
        y.birth(1, -40, 0);
        Check.due("who was SENT sends, though not of age", y.send(0, 1, 2), false);
        y.birth(0, -22, 1);
        y.birth(1, -40, 0);
        Check.due("with one to be SENT", y.send(0, 1, 2), true);
        Check.due("to the end", y.serves(0, 0, 1), 2);
    }

    private static void sixtySent() {
        LotOffice x = office(34);
        x.lot(0, 17);
        x.lot(0, 17);
        x.lot(0, 17);
        x.lot(0, 17);
        int told = 0;
        for (int l = 0; l < 4; l++) {
            for (int m = 0; m < 17; m++) {
                boolean may = x.send(l, m, 17 + m);
                Check.due("SENT " + told, may, told < 60);
                told++;
            }
        }
        Check.due("sixty", x.count(6), 60);
    }

    private static void mended() {
        LotOffice x = office(5);
        x.lot(0, 2);
        Check.due("ahead of any", x.mendedAt(0), -1);
        Check.due("LOT 1", x.mended(1, 0, 0, false), -1);
        Check.due("LOT -1", x.mended(-1, 0, 0, false), -1);
        Check.due("nothing changed", x.mended(0, 0, 0, false), 0);
        Check.due("none such", x.mendedAt(0), -1);
        x.next(1);
        x.birth(0, -40, 0);
        x.next(1);
        x.birth(1, -40, 0);
        Check.due("two SHOULD have gone", x.mended(0, 0, 2, false), 2);
        Check.due("the first", x.mendedAt(0), 2);
        Check.due("the second", x.mendedAt(1), 3);
        Check.due("no third", x.mendedAt(2), -1);
        Check.due("none below", x.mendedAt(-1), -1);
        Check.due("two for NOTHING", x.mended(0, 0, 2, true), 2);
        Check.due("he", x.mendedAt(0), 0);
        Check.due("and he", x.mendedAt(1), 1);
        Check.due("AS OF 1", x.mended(0, 0, 1, false), 1);
        Check.due("it was 2", x.mendedAt(0), 2);
        Check.due("no second now", x.mendedAt(1), -1);
        Check.due("AS OF 2 against 1", x.mended(0, 1, 2, true), 1);
        Check.due("it was 1", x.mendedAt(0), 1);
        Check.due("backwards", x.mended(0, 2, 0, false), 2);
        Check.due("he again", x.mendedAt(0), 0);
        Check.due("against nothing", x.mended(0, -1, 2, false), 2);
        Check.due("all CALLED", x.mendedAt(1), 3);
        Check.due("NONE", x.mended(4, 0, 0, true), -1);
        Check.due("the latest stays", x.mendedAt(1), 3);
        Check.due("to nothing", x.mended(0, 2, -5, true), 2);
    }

    private static void mendedByOrderOfNumbers() {
        LotOffice x = new LotOffice();
        for (int m = 0; m < 6; m++) {
            Check.man(x, "a", 5 - m, m, -22, 50 - m);
        }
        x.lot(0, 60);
        Check.due("all", x.mended(0, -1, 0, false), 6);
        for (int k = 0; k < 6; k++) {
            Check.due("the " + k + "th", x.mendedAt(k), k);
        }
    }

    private static void appeals() {
        LotOffice x = office(4);
        x.lot(5, 2);
        Check.due("ahead of its DAY", x.appeal(0, 0), -1);
        x.next(5);
        Check.due("on its DAY", x.appeal(0, 0), 0);
        Check.due("LOT 1", x.appeal(1, 0), -1);
        Check.due("LOT -1", x.appeal(-1, 0), -1);
        Check.due("man 4", x.appeal(0, 4), -1);
        Check.due("man -1", x.appeal(0, -1), -1);
        Check.due("who never was CALLED", x.appeal(0, 3), 0);
        x.birth(1, -40, 0);
        Check.due("mended on the LOT's DAY it was not CALLED", x.appeal(0, 1), 0);
        x.next(1);
        x.birth(0, -40, 0);
        Check.due("HEARD", x.appeal(0, 0), 1);
        Check.due("as often as he comes", x.appeal(0, 0), 1);
        Check.due("who is CALLED now was not", x.appeal(0, 3), 0);
        Check.due("APPEALS", x.count(7), 6);
        Check.due("HEARD of them", x.count(8), 2);
        Check.law(x, "free;", 6);
        Check.due("a law of later DAYS", x.appeal(0, 2), 0);
    }

    private static void appealDays() {
        LotOffice x = office(4);
        x.lot(5, 2);
        x.next(35);
        Check.due("30 DAYS behind", x.appeal(0, 0), 0);
        x.next(1);
        Check.due("31 DAYS", x.appeal(0, 0), -1);
        LotOffice y = office(4);
        Check.law(y, "appeal 3;", 5);
        Check.law(y, "appeal 9;", 6);
        y.lot(5, 2);
        y.next(8);
        Check.due("3 DAYS behind", y.appeal(0, 0), 0);
        y.next(1);
        Check.due("4 DAYS", y.appeal(0, 0), -1);
        Check.due("one", y.count(7), 1);
        LotOffice w = office(4);
        Check.law(w, "appeal 3;age 1 to 2;class 7 if serving > 0;x", 0);
        Check.law(w, "class 7;send if sole;", 0);
        w.lot(5, 2);
        w.next(35);
        Check.due("30 DAYS without a LINE", w.appeal(0, 0), 0);
        Check.due("as of the law that was no FAULT", w.called(0, 35), 2);
        w.next(1);
        Check.due("31 DAYS without a LINE", w.appeal(0, 0), -1);
        LotOffice z = office(4);
        z.lot(0, 2);
        Check.law(z, "appeal 0;", 0);
        Check.due("on its very DAY", z.appeal(0, 0), 0);
        z.next(1);
        Check.due("a DAY behind", z.appeal(0, 0), -1);
    }

    private static void sixtyAppeals() {
        LotOffice x = office(2);
        x.lot(0, 1);
        for (int i = 0; i < 60; i++) {
            Check.due("APPEAL " + i, x.appeal(0, 0), 0);
        }
        Check.due("a 61st", x.appeal(0, 0), -1);
        Check.due("sixty", x.count(7), 60);
        Check.due("none HEARD", x.count(8), 0);
    }
}
