/** The edges that the document names for the texts, promises 24 to 27: a test for each sentence. */
public final class TextsEdgesTest {
    private static final int[] FAR_OFF = {Integer.MIN_VALUE, -216, 304, 65584, Integer.MAX_VALUE};
    // Ten entries of 6 characters, all of the cells from 00 to 11.
    private static final String SIXTY = "00+01;01+02;02+03;03+04;04+05;05+06;06+07;07+08;10+09;11+10;";
    private static final Due due = new Due();

    public static void main(String[] args) {
        atMost60Characters();
        initiallyEmpty();
        eachFollowedBySemicolon();
        digitsOfTheForm();
        signs();
        oneOrTwoDigits();
        zerosAhead();
        theFirstCharacterOfTheFirstEntry();
        noSuchTrack();
        noSuchSector();
        above20();
        anEntryAhead();
        theFirstOfTheseReasons();
        anEmptyTextHasNoFault();
        faultsAtTheTextsEnd();
        typeArgument();
        typeLimit();
        clearTextAnswer();
        faultArgument();
        faultNotFound();
        loadOfAllOthers();
        loadReturnsTheEntries();
        loadNotPossible();
        loadAndTheText();
        due.end();
    }

    private static void faultIs(String text, int position, int reason) {
        VernierEncoder x = Prepared.typed(text);
        due.is("fault(0) of " + text, x.fault(0), position);
        due.is("fault(1) of " + text, x.fault(1), reason);
    }

    private static void isFine(String text) {
        faultIs(text, -4, -4);
    }

    private static void atMost60Characters() {
        due.sentence("There is a text of at most 60 characters");
        VernierEncoder x = new VernierEncoder();
        for (int length = 1; length <= 60; length++) {
            due.is("type(48)", x.type(48), length);
            due.is("count(11)", x.count(11), length);
        }
        due.is("type(48) with 60", x.type(48), -3);
        due.is("count(11)", x.count(11), 60);
    }

    private static void initiallyEmpty() {
        due.sentence("initially empty");
        VernierEncoder x = new VernierEncoder();
        due.is("count(11)", x.count(11), 0);
        due.is("clearText()", x.clearText(), 0);
        due.is("load()", x.load(), 0);
    }

    private static void eachFollowedBySemicolon() {
        due.sentence("entries, each followed by \";\"");
        faultIs("00+1", 0, 1);
        faultIs("00+1:", 0, 1);
        faultIs("00+1<", 0, 1);
        faultIs("00+11:", 0, 1);
        faultIs("00+11<", 0, 1);
        isFine("00+1;");
        isFine("00+11;");
        faultIs("00+1;;", 5, 1);
        faultIs(";", 0, 1);
        faultIs(";00+1;", 0, 1);
        faultIs("00+1;01+1", 5, 1);
        isFine("00+1;01+1;");
        faultIs("00+1; 01+1;", 5, 1);
    }

    private static void digitsOfTheForm() {
        due.sentence("a digit for the track, a digit for the sector");
        char[] noDigits = {' ', '/', ':', ';', '+', 'a', '~'};
        for (char sign : noDigits) {
            faultIs(sign + "0+1;", 0, 1);
            faultIs("0" + sign + "+1;", 0, 1);
            faultIs("00+" + sign + ";", 0, 1);
            faultIs("00+1" + sign + ";", sign == ';' ? 5 : 0, 1);
        }
        faultIs("0+1;", 0, 1);
        faultIs("000+1;", 0, 1);
        faultIs("+1;", 0, 1);
    }

    private static void signs() {
        due.sentence("\"+\" or \"-\"");
        for (int sign = 32; sign <= 126; sign++) {
            boolean fine = sign == '+' || sign == '-';
            faultIs("00" + (char) sign + "1;", fine ? -4 : 0, fine ? -4 : 1);
        }
        faultIs("001;", 0, 1);
        faultIs("00+-1;", 0, 1);
    }

    private static void oneOrTwoDigits() {
        due.sentence("a correction of 1 or 2 digits");
        faultIs("00+;", 0, 1);
        isFine("00+1;");
        isFine("00+12;");
        faultIs("00+123;", 0, 1);
        faultIs("00-;", 0, 1);
        isFine("00-9;");
        isFine("00-10;");
        faultIs("00-100;", 0, 1);
    }

    private static void zerosAhead() {
        due.sentence("(zeros may stand ahead)");
        isFine("00+05;");
        isFine("00+00;");
        isFine("00-00;");
        isFine("00-0;");
        faultIs("00+005;", 0, 1);
        VernierEncoder x = Prepared.typed("00+05;01-09;02-00;");
        x.load();
        due.is("+05", x.correction(0, 0), 105);
        due.is("-09", x.correction(0, 1), 91);
        due.is("-00", x.correction(0, 2), 100);
        due.is("-00 is 0", x.count(9), 2);
    }

    private static void theFirstCharacterOfTheFirstEntry() {
        due.sentence("The fault of the text is the position, from 0, of the first character of the first entry that"
                + " is not as it must be");
        faultIs("x", 0, 1);
        faultIs("00+1;x", 5, 1);
        faultIs("00+01;x", 6, 1);
        faultIs("00+1;01+02;x", 11, 1);
        faultIs("00+1;01+21;30+1;x", 5, 4);
        faultIs("00+1;30+1;01+21;x", 5, 2);
        faultIs("00+1;00+2;08+1;x", 5, 5);
        faultIs("00+1;01+1;08+1;00+1;", 10, 3);
    }

    private static void noSuchTrack() {
        due.sentence("2 if there is no such track");
        for (int track = 0; track <= 9; track++) {
            boolean fine = track <= 2;
            faultIs(track + "0+1;", fine ? -4 : 0, fine ? -4 : 2);
            faultIs(track + "7+1;", fine ? -4 : 0, fine ? -4 : 2);
        }
    }

    private static void noSuchSector() {
        due.sentence("3 if there is no such sector");
        for (int sector = 0; sector <= 9; sector++) {
            boolean fine = sector <= 7;
            for (int track = 0; track <= 2; track++) {
                faultIs("" + track + sector + "+1;", fine ? -4 : 0, fine ? -4 : 3);
            }
        }
    }

    private static void above20() {
        due.sentence("4 if the correction is above 20");
        for (int amount = 0; amount <= 99; amount++) {
            boolean fine = amount <= 20;
            faultIs("00+" + amount + ";", fine ? -4 : 0, fine ? -4 : 4);
            faultIs("27-" + amount + ";", fine ? -4 : 0, fine ? -4 : 4);
        }
    }

    private static void anEntryAhead() {
        due.sentence("5 if there is an entry for this track and sector ahead of it");
        faultIs("00+1;00+1;", 5, 5);
        faultIs("00+0;00+0;", 5, 5);
        faultIs("27-20;27+5;", 6, 5);
        isFine("00+1;01+1;");
        isFine("01+1;10+1;");
        isFine("07+1;10+1;17+1;20+1;");
        faultIs("07+1;10+1;17+1;20+1;07+1;", 20, 5);
        VernierEncoder x = Prepared.typed("00+1;");
        x.fault(0);
        x.load();
        due.is("an entry is not ahead of itself", x.fault(0), -4);
        x.clearText();
        Prepared.write(x, "00+1;");
        due.is("nor is one of a text before", x.fault(0), -4);
        x.correct(0, 0, 3);
        due.is("nor is one of the table", x.fault(0), -4);
    }

    private static void theFirstOfTheseReasons() {
        due.sentence("(the first of these reasons)");
        faultIs("38+21", 0, 1);
        faultIs("38+210;", 0, 1);
        faultIs("38+21;", 0, 2);
        faultIs("30+21;", 0, 2);
        faultIs("28+21;", 0, 3);
        faultIs("00+1;00+21", 5, 1);
        faultIs("00+1;00+21;", 5, 4);
        faultIs("00+1;00+20;", 5, 5);
    }

    private static void anEmptyTextHasNoFault() {
        due.sentence("An empty text has no fault.");
        isFine("");
        VernierEncoder x = Prepared.typed("x");
        x.clearText();
        due.is("fault(0) of a text that was emptied", x.fault(0), -4);
        due.is("fault(1) of a text that was emptied", x.fault(1), -4);
        x.type('0');
        due.is("what follows is a text of its own", x.fault(0), 0);
        VernierEncoder y = Prepared.typed("00+1;");
        y.clearText();
        Prepared.write(y, "00+1");
        due.is("an old end is gone", y.fault(1), 1);
    }

    private static void faultsAtTheTextsEnd() {
        due.sentence("1 if it is not of this form, its \";\" included");
        isFine(SIXTY);
        faultIs(SIXTY.substring(0, 59), 54, 1);
        faultIs(SIXTY.substring(0, 58) + ";;", 59, 1);
        faultIs(SIXTY.substring(0, 54) + "00+10;", 54, 5);
        faultIs(SIXTY.substring(0, 54) + "00+123", 54, 1);
        String[] begins = {"1", "11", "11+", "11+1", "11+10"};
        for (String begin : begins) {
            faultIs(begin, 0, 1);
            faultIs(SIXTY.substring(0, 54) + begin, 54, 1);
            faultIs("00+1;" + begin, 5, 1);
        }
        String fives = "00+1;01+2;02+3;03+4;04+5;05+6;06+7;07+8;10+9;11+1;12+2;";
        isFine(fives + "13+3;");
        faultIs(fives + "13+33", 55, 1);
        faultIs(fives + "13+3", 55, 1);
        faultIs(fives + "12+3;", 55, 5);
    }

    private static void typeArgument() {
        due.sentence("character: its code, 32 to 126");
        VernierEncoder x = new VernierEncoder();
        due.is("type(31)", x.type(31), -1);
        due.is("type(32)", x.type(32), 1);
        due.is("type(126)", x.type(126), 2);
        due.is("type(127)", x.type(127), -1);
        due.is("type(-1)", x.type(-1), -1);
        due.is("type(0)", x.type(0), -1);
        for (int far : FAR_OFF) {
            due.is("type(" + far + ")", x.type(far), -1);
        }
        due.is("count(11)", x.count(11), 2);
    }

    private static void typeLimit() {
        due.sentence("LIMIT_REACHED if it has 60 characters.");
        VernierEncoder x = Prepared.typed(SIXTY.substring(0, 59));
        due.is("type(59) with 59", x.type(59), 60);
        due.is("type(59) with 60", x.type(59), -3);
        due.is("type(31) with 60", x.type(31), -1);
        due.is("type(127) with 60", x.type(127), -1);
        due.is("count(11)", x.count(11), 60);
        due.is("fault(0)", x.fault(0), -4);
        due.is("clearText()", x.clearText(), 60);
        due.is("type(59) after clearText()", x.type(59), 1);
    }

    private static void clearTextAnswer() {
        due.sentence("Returns the length that it had.");
        VernierEncoder x = new VernierEncoder();
        due.is("of none", x.clearText(), 0);
        x.type('x');
        due.is("of one", x.clearText(), 1);
        due.is("of none again", x.clearText(), 0);
        due.is("of 60", Prepared.typed(SIXTY).clearText(), 60);
    }

    private static void faultArgument() {
        due.sentence("what: 0: its position; 1: its reason");
        VernierEncoder x = Prepared.typed("00+1;30+1;");
        int[] answers = {-1, -1, 5, 2, -1, -1};
        for (int what = -2; what <= 3; what++) {
            due.is("fault(" + what + ")", x.fault(what), answers[what + 2]);
        }
        for (int far : FAR_OFF) {
            due.is("fault(" + far + ")", x.fault(far), -1);
        }
    }

    private static void faultNotFound() {
        due.sentence("INVALID_ARGUMENT if what is out of range; NOT_FOUND if the text has no fault.");
        VernierEncoder x = new VernierEncoder();
        int[] answers = {-1, -4, -4, -1};
        for (int what = -1; what <= 2; what++) {
            due.is("fault(" + what + ") of an empty text", x.fault(what), answers[what + 1]);
        }
        Prepared.write(x, "00+1;");
        for (int what = -1; what <= 2; what++) {
            due.is("fault(" + what + ") of a fine text", x.fault(what), answers[what + 1]);
        }
    }

    private static void loadOfAllOthers() {
        due.sentence("Lets the table have the corrections of the text, and 0 for all other tracks and sectors");
        VernierEncoder x = Prepared.typed("00+20;27-20;");
        for (int cell = 0; cell < 24; cell++) {
            x.correct(cell / 8, cell % 8, 9);
        }
        x.load();
        for (int cell = 0; cell < 24; cell++) {
            int want = cell == 0 ? 120 : cell == 23 ? 80 : 100;
            due.is("correction of the cell " + cell, x.correction(cell / 8, cell % 8), want);
        }
        x.clearText();
        x.load();
        due.is("none of an empty text", x.count(9), 0);
    }

    private static void loadReturnsTheEntries() {
        due.sentence("Returns the number of entries");
        due.is("of an empty text", new VernierEncoder().load(), 0);
        due.is("of one", Prepared.typed("00+0;").load(), 1);
        due.is("of ten", Prepared.typed(SIXTY).load(), 10);
        String twelve = "00+1;01+2;02+3;03+4;04+5;05+6;06+7;07+8;20+9;25-1;26-2;27-3;";
        VernierEncoder x = Prepared.typed(twelve);
        due.is("of twelve", x.load(), 12);
        due.is("of twelve again", x.load(), 12);
        due.is("the last one", x.correction(2, 7), 97);
    }

    private static void loadNotPossible() {
        due.sentence("NOT_POSSIBLE if the text has a fault.");
        String[] wrong = {"x", "00+1", "00+1;;", "30+1;", "08+1;", "00+21;", "00+1;00+1;", "00+1;x"};
        for (String text : wrong) {
            VernierEncoder x = Prepared.typed(text);
            x.correct(0, 0, 7);
            due.is("load() of " + text, x.load(), -2);
            due.is("the table stays", x.correction(0, 0), 107);
            due.is("the table stays", x.count(9), 1);
            due.is("no change", x.count(10), 1);
        }
    }

    private static void loadAndTheText() {
        due.sentence("the text stays");
        VernierEncoder x = Prepared.typed("00+1;");
        x.load();
        due.is("count(11)", x.count(11), 5);
        Prepared.write(x, "00+1;");
        due.is("fault(0)", x.fault(0), 5);
        due.is("load()", x.load(), -2);
        due.is("count(11)", x.count(11), 10);
    }
}
