/** Promises 24 to 27: type, clearText, fault, load. */
public final class TextsTest {
    private static final Due due = new Due();

    public static void main(String[] args) {
        type();
        clearText();
        faultOutOfRange();
        faultsOfForm();
        faultsOfNumbers();
        theFirstEntryCounts();
        theFirstReasonCounts();
        load();
        loadReplacesTheTable();
        due.end();
    }

    private static void faultIs(String text, int position, int reason) {
        VernierEncoder x = Prepared.typed(text);
        due.is("fault(0) of " + text, x.fault(0), position);
        due.is("fault(1) of " + text, x.fault(1), reason);
        if (reason != -4) {
            due.is("load() of " + text, x.load(), -2);
            due.is("states after load() of " + text, x.count(10), 0);
        }
    }

    private static void type() {
        VernierEncoder x = new VernierEncoder();
        due.is("type(31)", x.type(31), -1);
        due.is("type(127)", x.type(127), -1);
        due.is("type(-1)", x.type(-1), -1);
        due.is("type(304)", x.type(304), -1);
        due.is("type(32)", x.type(32), 1);
        due.is("type(126)", x.type(126), 2);
        for (int length = 3; length <= 60; length++) {
            due.is("type(59)", x.type(59), length);
        }
        due.is("type(59) with 60", x.type(59), -3);
        due.is("type(31) with 60", x.type(31), -1);
        due.is("count(11)", x.count(11), 60);
        due.is("states", x.count(10), 0);
    }

    private static void clearText() {
        VernierEncoder x = Prepared.typed("abc");
        due.is("clearText()", x.clearText(), 3);
        due.is("clearText() again", x.clearText(), 0);
        due.is("fault(0)", x.fault(0), -4);
        due.is("type(48)", x.type(48), 1);
        due.is("an old character does not count", x.fault(1), 1);
        VernierEncoder y = Prepared.typed("00+1;");
        y.clearText();
        Prepared.write(y, "00+1");
        due.is("an old end does not count", y.fault(0), 0);
        due.is("states", y.count(10), 0);
    }

    private static void faultOutOfRange() {
        VernierEncoder x = Prepared.typed("x");
        due.is("fault(-1)", x.fault(-1), -1);
        due.is("fault(2)", x.fault(2), -1);
        due.is("fault(2) of an empty text", new VernierEncoder().fault(2), -1);
    }

    private static void faultsOfForm() {
        String[] wrong = {"0", "00", "00+", "00+1", "00+12", ";", "00+;", "00-;", "0+1;", "00 1;", "00*1;",
            "x0+1;", "0x+1;", "/0+1;", ":0+1;", "0/+1;", "0:+1;", "00+x;", "00+1x;", "00+x1;", "00+/;",
            "00+:;", "00+1:;", "00+1/;", "00+005;", "00+123;", "00+1,", "00++1;", "00+-1;", " 00+1;", "00+1 ;"};
        for (String text : wrong) {
            faultIs(text, 0, 1);
        }
        String[] fine = {"", "00+0;", "00-0;", "00+05;", "00-00;", "27+20;", "00+1;00+1".substring(0, 5)};
        for (String text : fine) {
            faultIs(text, -4, -4);
        }
    }

    private static void faultsOfNumbers() {
        faultIs("20+1;", -4, -4);
        faultIs("30+1;", 0, 2);
        faultIs("90+1;", 0, 2);
        faultIs("07+1;", -4, -4);
        faultIs("08+1;", 0, 3);
        faultIs("29+1;", 0, 3);
        faultIs("00+20;", -4, -4);
        faultIs("00+21;", 0, 4);
        faultIs("00-20;", -4, -4);
        faultIs("00-21;", 0, 4);
        faultIs("00+99;", 0, 4);
        faultIs("00+1;00+1;", 5, 5);
        faultIs("00+1;01+1;10+1;00-2;", 15, 5);
        faultIs("00+0;00+0;", 5, 5);
    }

    private static void theFirstEntryCounts() {
        faultIs("00+1;;", 5, 1);
        faultIs("00+12;x", 6, 1);
        faultIs("00+12;01+3;38+99;00", 11, 2);
        faultIs("00+1;01+1", 5, 1);
        faultIs("00+1;08+1;30+1;", 5, 3);
        faultIs("00+1;01+21;x", 5, 4);
        faultIs("00+01;01+02;02+03;03+04;04+05;05+06;06+07;07+08;10+09;11+10;", -4, -4);
        faultIs("00+01;01+02;02+03;03+04;04+05;05+06;06+07;07+08;10+09;00+10;", 54, 5);
        faultIs("00+01;01+02;02+03;03+04;04+05;05+06;06+07;07+08;10+09;11+1;1", 59, 1);
        faultIs("00+1;01+2;02+3;03+4;04+5;05+6;06+7;07+8;10+9;11+1;12+1;13+12", 55, 1);
    }

    private static void theFirstReasonCounts() {
        faultIs("39+99", 0, 1);
        faultIs("38+99;", 0, 2);
        faultIs("28+99;", 0, 3);
        faultIs("00+1;00+21;", 5, 4);
        faultIs("00+1;00+20;", 5, 5);
        faultIs("00+1;00+1", 5, 1);
    }

    private static void load() {
        VernierEncoder x = Prepared.typed("00+1;17-20;25+08;26-0;");
        due.is("load()", x.load(), 4);
        due.is("correction(0, 0)", x.correction(0, 0), 101);
        due.is("correction(1, 7)", x.correction(1, 7), 80);
        due.is("correction(2, 5)", x.correction(2, 5), 108);
        due.is("correction(2, 6)", x.correction(2, 6), 100);
        due.is("count(9)", x.count(9), 3);
        due.is("the text stays", x.count(11), 22);
        due.is("states", x.count(10), 1);
        due.is("load() again", x.load(), 4);
        due.is("undo()", x.undo(), 1);
        due.is("undo()", x.undo(), 0);
        due.is("count(9) undone", x.count(9), 0);
        VernierEncoder full = Prepared.typed("00+1;01+2;02+3;03+4;04+5;05+6;06+7;07+8;10+9;11-1;12-2;13-3;");
        due.is("load() of twelve", full.load(), 12);
        due.is("count(9)", full.count(9), 12);
        due.is("correction(1, 3)", full.correction(1, 3), 97);
    }

    private static void loadReplacesTheTable() {
        VernierEncoder x = Prepared.typed("11+2;");
        x.correct(0, 0, 5);
        x.correct(1, 1, 5);
        x.correct(2, 7, 5);
        due.is("load()", x.load(), 1);
        due.is("correction(0, 0)", x.correction(0, 0), 100);
        due.is("correction(1, 1)", x.correction(1, 1), 102);
        due.is("correction(2, 7)", x.correction(2, 7), 100);
        x.clearText();
        due.is("load() of an empty text", x.load(), 0);
        due.is("count(9)", x.count(9), 0);
        Prepared.write(x, "11+2;11");
        due.is("load() with a fault", x.load(), -2);
        due.is("the table stays", x.count(9), 0);
    }
}
