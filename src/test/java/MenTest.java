/** Promises 1 to 9, 16 to 18 and 33: the tape, DAYS, MEN and what is told of them. */
public final class MenTest {
    public static void main(String[] args) {
        aNewObject();
        theTape();
        days();
        names();
        births();
        facts();
        exams();
        sames();
        ages();
        brothers();
        counts();
        Check.close();
    }

    private static void aNewObject() {
        LotOffice x = new LotOffice();
        for (int what = 0; what < 10; what++) {
            Check.due("count(" + what + ") of a new object", x.count(what), 0);
        }
        Check.due("count(-1)", x.count(-1), LotOffice.NONE);
        Check.due("count(10)", x.count(10), LotOffice.NONE);
        Check.due("NONE", LotOffice.NONE, -1);
        Check.due("fault", x.fault(), 0);
        Check.due("why", x.why(), -1);
        Check.due("mendedAt", x.mendedAt(0), -1);
        Check.due("gone", x.gone(0, 0), -1);
        Check.due("who", x.who(0, 0), -1);
        Check.due("age", x.age(0, 0, 0), -1);
        Check.due("brothers", x.brothers(0, 0), -1);
        Check.due("state", x.state(0, 0, 0), -1);
        Check.due("quota", x.quota(0, 0, 0), -1);
        Check.due("place", x.place(0, 0, 0), -1);
        Check.due("called", x.called(0, 0), -1);
        Check.due("serves", x.serves(0, 0, 0), -1);
        Check.due("mended", x.mended(0, 0, 0, false), -1);
        Check.due("appeal", x.appeal(0, 0), -1);
        Check.due("send", x.send(0, 0, 0), false);
    }

    private static void theTape() {
        LotOffice x = new LotOffice();
        for (int i = 1; i <= 17; i++) {
            Check.due("feed " + i, x.feed(0, 0, 0, 0, 0), 20 * i);
        }
        Check.due("an 18th feed", x.feed(0, 0, 0, 0, 0), -1);
        Check.due("none came", x.count(9), 340);
        Check.due("end behind it", x.end(341), false);
        Check.due("end below 0", x.end(-1), false);
        Check.due("end changes nothing then", x.count(9), 340);
        Check.due("end of all", x.end(340), true);
        Check.due("end of 321", x.end(321), true);
        Check.due("one too many", x.feed(0, 0, 0, 0, 0), -1);
        Check.due("end of 320", x.end(320), true);
        Check.due("just as many", x.feed(0, 0, 0, 0, 0), 340);
        Check.due("end of none", x.end(0), true);
        Check.due("end of one that is gone", x.end(1), false);
        Check.due("empty", x.count(9), 0);
        bytesHighestFirst();
    }

    private static void bytesHighestFirst() {
        LotOffice x = new LotOffice();
        x.feed('a' << 24 | 'b' << 16 | 'c' << 8 | 'd', 'e' << 24 | 'f' << 16 | 'g' << 8 | 'h', -1, -1, -1);
        x.end(8);
        Check.due("a NAME of eight", x.man(0, 0), 0);
        x.feed('a' << 24 | 'b' << 16, 0, 0, 0, 0);
        x.end(3);
        Check.due("the third byte is no letter", x.man(0, 0), -1);
        x.feed('f' << 24 | 'r' << 16 | 'e' << 8 | 'e', ';' << 24 | 'f' << 16 | 'r' << 8 | 'e',
            'e' << 24 | ';' << 16 | 'f' << 8 | 'r', 'e' << 24 | 'e' << 16 | ';' << 8 | 'f', 'r' << 24 | 'e' << 16 | 'e' << 8 | ';');
        Check.due("four LINES in five numbers", x.law(0), 4);
        x.feed('f' << 24 | 'r' << 16 | 'e' << 8 | 'e', 0, 0, 0, 0);
        x.end(4);
        x.feed(' ' << 24 | ';' << 16, 0, 0, 0, 0);
        x.end(6);
        Check.due("bytes come behind those ahead", x.law(0), 1);
    }

    private static void days() {
        LotOffice x = new LotOffice();
        Check.due("next(0)", x.next(0), 0);
        Check.due("next(-1)", x.next(-1), -1);
        Check.due("next(3640)", x.next(3640), -1);
        Check.due("TODAY stays", x.count(0), 0);
        Check.due("next(1000)", x.next(1000), 1000);
        Check.due("next(2640)", x.next(2640), -1);
        Check.due("next(2639)", x.next(2639), 3639);
        Check.due("next(0) on the last DAY", x.next(0), 3639);
        Check.due("next(1) on the last DAY", x.next(1), -1);
        Check.due("the greatest", x.next(Integer.MAX_VALUE), -1);
        Check.due("TODAY", x.count(0), 3639);
        Check.due("all at once", new LotOffice().next(3639), 3639);
    }

    private static void names() {
        LotOffice x = new LotOffice();
        Check.due("no NAME", Check.man(x, "", 0, 0), -1);
        Check.due("nine letters", Check.man(x, "abcdefghi", 0, 0), -1);
        Check.due("the tape is empty", x.count(9), 0);
        Check.due("a great letter", Check.man(x, "Ab", 0, 0), -1);
        Check.due("a blank", Check.man(x, "a b", 0, 0), -1);
        Check.due("behind z", Check.man(x, "a{", 0, 0), -1);
        Check.due("ahead of a", Check.man(x, "`a", 0, 0), -1);
        Check.due("a byte above 127", Check.man(x, "a\u00e1", 0, 0), -1);
        Check.due("PARISH -1", Check.man(x, "a", -1, 0), -1);
        Check.due("PARISH 8", Check.man(x, "a", 8, 0), -1);
        Check.due("FATHER -1", Check.man(x, "a", 0, -1), -1);
        Check.due("FATHER 60", Check.man(x, "a", 0, 60), -1);
        Check.due("none yet", x.count(1), 0);
        Check.due("the first", Check.man(x, "a", 7, 59), 0);
        Check.due("of like NAME", Check.man(x, "a", 0, 0), 1);
        Check.due("from a to z", Check.man(x, "azazazaz", 0, 0), 2);
        for (int m = 3; m < 60; m++) {
            Check.due("man " + m, Check.man(x, "m", m % 8, m), m);
        }
        Check.due("a 61st", Check.man(x, "m", 0, 0), -1);
        Check.due("the tape is empty again", x.count(9), 0);
        Check.due("sixty", x.count(1), 60);
    }

    private static void births() {
        LotOffice x = new LotOffice();
        Check.due("nobody there", x.birth(0, 0, 0), false);
        Check.man(x, "a", 0, 0);
        Check.due("man -1", x.birth(-1, 0, 0), false);
        Check.due("man 1", x.birth(1, 0, 0), false);
        Check.due("YEAR -61", x.birth(0, -61, 0), false);
        Check.due("YEAR 10", x.birth(0, 10, 0), false);
        Check.due("week -1", x.birth(0, 0, -1), false);
        Check.due("week 52", x.birth(0, 0, 52), false);
        Check.due("no BIRTH is KNOWN", x.age(0, 0, 0), -1);
        Check.due("YEAR -60", x.birth(0, -60, 0), true);
        Check.due("AGE 60", x.age(0, 0, 0), 60);
        Check.due("YEAR 9", x.birth(0, 9, 51), true);
        Check.due("the last one counts", x.age(0, 0, 0), 0);
        for (int i = 2; i < 100; i++) {
            Check.due("BIRTH " + i, x.birth(0, -30, 0), true);
        }
        Check.due("a 101st", x.birth(0, -20, 0), false);
        Check.due("is not told", x.age(0, 0, 0), 30);
    }

    private static void facts() {
        LotOffice x = new LotOffice();
        Check.due("nobody there", x.fact(0, 0, 0, 0, 0), false);
        Check.man(x, "a", 0, 0);
        int[] most = {9, 9, 1, 1, 1, 250};
        for (int kind = 0; kind < 6; kind++) {
            Check.due("most of KIND " + kind, x.fact(0, kind, most[kind], 0, 0), true);
            Check.due("least of KIND " + kind, x.fact(0, kind, 0, 3639, 3639), true);
            Check.due("too much of KIND " + kind, x.fact(0, kind, most[kind] + 1, 0, 0), false);
            Check.due("too little of KIND " + kind, x.fact(0, kind, -1, 0, 0), false);
        }
        Check.due("KIND -1", x.fact(0, -1, 0, 0, 0), false);
        Check.due("KIND 6", x.fact(0, 6, 0, 0, 0), false);
        Check.due("man 1", x.fact(1, 0, 0, 0, 0), false);
        Check.due("man -1", x.fact(-1, 0, 0, 0, 0), false);
        Check.due("from -1", x.fact(0, 0, 0, -1, 0), false);
        Check.due("to 3640", x.fact(0, 0, 0, 0, 3640), false);
        Check.due("to ahead of from", x.fact(0, 0, 0, 5, 4), false);
        Check.due("twelve", x.count(4), 12);
        x.next(3639);
        Check.due("of DAYS that are over", x.fact(0, 0, 0, 0, 3639), true);
        for (int i = 13; i < 240; i++) {
            Check.due("FACT " + i, x.fact(0, 0, 1, 0, 0), true);
        }
        Check.due("a 241st", x.fact(0, 0, 1, 0, 0), false);
        Check.due("240", x.count(4), 240);
    }

    private static void exams() {
        LotOffice x = new LotOffice();
        Check.due("nobody there", x.exam(0, 0, 0), false);
        Check.man(x, "a", 0, 0);
        Check.due("man 1", x.exam(1, 0, 0), false);
        Check.due("man -1", x.exam(-1, 0, 0), false);
        Check.due("DOCTOR -1", x.exam(0, -1, 0), false);
        Check.due("DOCTOR 8", x.exam(0, 8, 0), false);
        Check.due("GRADE -1", x.exam(0, 0, -1), false);
        Check.due("GRADE 10", x.exam(0, 0, 10), false);
        Check.due("none", x.count(5), 0);
        Check.due("DOCTOR 7, GRADE 9", x.exam(0, 7, 9), true);
        for (int i = 1; i < 60; i++) {
            Check.due("EXAM " + i, x.exam(0, 0, 0), true);
        }
        Check.due("a 61st", x.exam(0, 0, 0), false);
        Check.due("sixty", x.count(5), 60);
    }

    private static void sames() {
        LotOffice x = new LotOffice();
        for (int m = 0; m < 8; m++) {
            Check.man(x, "a", 0, 0, -20 - m, 0);
        }
        Check.due("man 8", x.same(0, 8), false);
        Check.due("man -1", x.same(-1, 0), false);
        Check.due("both one", x.same(3, 3), false);
        Check.due("5 and 3", x.same(5, 3), true);
        Check.due("who 5", x.who(5, 0), 3);
        Check.due("who 3", x.who(3, 0), 3);
        x.next(1);
        Check.due("6 and 7", x.same(6, 7), true);
        Check.due("7 and 5", x.same(7, 5), true);
        Check.due("who 6", x.who(6, 1), 3);
        Check.due("who 7", x.who(7, 1), 3);
        Check.due("who 6 AS OF 0", x.who(6, 0), 6);
        Check.due("who 7 AS OF 0", x.who(7, 0), 7);
        x.next(1);
        Check.due("1 and 7", x.same(7, 1), true);
        Check.due("who 3", x.who(3, 2), 1);
        Check.due("who 6", x.who(6, 9999), 1);
        Check.due("who 5", x.who(5, 2), 1);
        Check.due("who 4", x.who(4, 2), 4);
        Check.due("who 3 AS OF 1", x.who(3, 1), 3);
        Check.due("who 5 AS OF -1", x.who(5, -1), 5);
        Check.due("who 8", x.who(8, 2), -1);
        Check.due("who -1", x.who(-1, 2), -1);
        Check.due("a mere NAME has no BROTHERS", x.brothers(3, 2), -1);
        Check.due("four are left, three BROTHERS", x.brothers(1, 2), 3);
        Check.due("AGE of a mere NAME", x.age(5, 0, 2), 25);
        for (int i = 4; i < 40; i++) {
            Check.due("SAME " + i, x.same(0, 1), true);
        }
        Check.due("a 41st", x.same(0, 2), false);
        Check.due("is not told", x.who(2, 2), 2);
    }

    private static void ages() {
        LotOffice x = new LotOffice();
        int m = Check.man(x, "a", 0, 0);
        Check.due("no BIRTH", x.age(m, 0, 0), -1);
        x.next(3);
        x.birth(m, -1, 51);
        Check.due("not KNOWN yet", x.age(m, 0, 2), -1);
        Check.due("one week old", x.age(m, 0, 3), 0);
        Check.due("51 weeks", x.age(m, 50 * 7 + 6, 3), 0);
        Check.due("52 weeks", x.age(m, 51 * 7, 3), 1);
        Check.due("103 weeks", x.age(m, 103 * 7 - 1, 3), 1);
        Check.due("104 weeks", x.age(m, 103 * 7, 3), 2);
        Check.due("the last DAY", x.age(m, 3639, 3), 10);
        Check.due("behind it", x.age(m, 3640, 3), -1);
        Check.due("DAY -1", x.age(m, -1, 3), -1);
        Check.due("man 1", x.age(1, 0, 3), -1);
        x.next(1);
        x.birth(m, 9, 0);
        Check.due("below 0", x.age(m, 0, 4), 0);
        Check.due("still below 1", x.age(m, 3639, 4), 0);
        Check.due("AS OF 3 it is as it was", x.age(m, 3639, 3), 10);
        Check.due("AS OF a DAY far behind", x.age(m, 0, Integer.MAX_VALUE), 0);
        Check.due("AS OF -1", x.age(m, 0, -1), -1);
        Check.due("AS OF the least", x.age(m, 0, Integer.MIN_VALUE), -1);
    }

    private static void brothers() {
        LotOffice x = new LotOffice();
        for (int m = 0; m < 4; m++) {
            Check.man(x, "a", m, 5);
        }
        Check.man(x, "a", 0, 6, -20, 0);
        Check.due("not there", x.brothers(0, 0), -1);
        x.birth(0, -20, 0);
        Check.due("alone there", x.brothers(0, 0), 0);
        x.birth(1, -20, 0);
        x.birth(2, 9, 0);
        Check.due("of each PARISH and age", x.brothers(0, 0), 2);
        Check.due("of another FATHER", x.brothers(4, 0), 0);
        x.next(1);
        x.same(1, 2);
        x.birth(3, -20, 0);
        Check.due("no mere NAMES", x.brothers(0, 1), 2);
        Check.due("of a mere NAME", x.brothers(2, 1), -1);
        Check.due("AS OF 0", x.brothers(2, 0), 2);
        x.next(1);
        x.same(3, 4);
        Check.due("a mere NAME of another FATHER", x.brothers(3, 2), 2);
        Check.due("no such one", x.brothers(5, 2), -1);
        Check.due("no man -1", x.brothers(-1, 2), -1);
    }

    private static void counts() {
        LotOffice x = new LotOffice();
        int a = Check.man(x, "a", 0, 0, -20, 0);
        int b = Check.man(x, "b", 0, 0, -20, 1);
        x.lot(0, 1);
        x.lot(9, 1);
        Check.law(x, "free if married;", 0);
        Check.law(x, "free if married;", 0);
        Check.law(x, "free if married;", 0);
        x.fact(a, 2, 0, 0, 9);
        x.exam(a, 0, 0);
        x.exam(a, 0, 0);
        x.send(0, a, b);
        x.next(4);
        x.appeal(0, a);
        x.fact(a, 2, 1, 0, 9);
        x.appeal(0, a);
        x.appeal(0, b);
        x.feed(0, 0, 0, 0, 0);
        int[] due = {4, 2, 2, 3, 2, 2, 1, 3, 1, 20};
        for (int what = 0; what < 10; what++) {
            Check.due("count(" + what + ")", x.count(what), due[what]);
        }
    }
}
