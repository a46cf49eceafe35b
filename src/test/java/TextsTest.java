/** Promises 13, 16 and 17: the text, its faults, and the answers that are read from it. */
public final class TextsTest {
    private static final int UNKNOWN = TenancyDeposits.UNKNOWN;
    private static final int NOT_POSSIBLE = TenancyDeposits.NOT_POSSIBLE;

    public static void main(String[] args) {
        typing();
        faults();
        everyCharacterAtEveryPlace();
        textsWithoutFault();
        answersAreDone();
        pointsAreSet();
        laterAnswersCount();
        allOrNone();
        firstRefusalIsTold();
        faultComesAhead();
        disputesOfAllTenancies();
        oneAct();
        longestText();
        Check.end("TextsTest");
    }

    private static void typing() {
        TenancyDeposits book = new TenancyDeposits();
        char[] any = {'a', 0, 255, 256, '\uFFFF', ' '};
        for (int n = 0; n < any.length; n++) {
            Check.due("type " + (int) any[n], book.type(any[n]), n + 1);
        }
        Check.due("count(13)", book.count(13), 6);
        Check.due("no act", book.count(12), 0);
        for (int n = 7; n <= 60; n++) {
            Check.due("type", book.type('x'), n);
        }
        Check.due("a 61st", book.type('x'), TenancyDeposits.FULL);
        Check.due("count(13)", book.count(13), 60);
        Check.due("clearText()", book.clearText(), 60);
        Check.due("clearText() again", book.clearText(), 0);
        Check.due("count(13)", book.count(13), 0);
        Check.due("type", book.type('0'), 1);
        Check.due("only the new text is read", book.readAnswers(), -101);
    }

    private static void faultOf(TenancyDeposits book, String text, int fault) {
        Check.due("fault of '" + text + "'", Check.read(book, text), -100 - fault);
        Check.due("the text '" + text + "' stays", book.count(13), text.length());
    }

    private static void faults() {
        TenancyDeposits book = new TenancyDeposits();
        faultOf(book, "", 0);
        faultOf(book, "0", 1);
        faultOf(book, "12", 2);
        faultOf(book, "123", 2);
        faultOf(book, "123a", 2);
        faultOf(book, "00a", 1);
        faultOf(book, "01a", 1);
        faultOf(book, "a", 0);
        faultOf(book, ",", 0);
        faultOf(book, "-1a", 0);
        faultOf(book, " 0a", 0);
        faultOf(book, "0 a", 1);
        faultOf(book, "0A", 1);
        faultOf(book, "0D", 1);
        faultOf(book, "0b", 1);
        faultOf(book, "0,", 1);
        faultOf(book, "0a,", 3);
        faultOf(book, "0a,,", 3);
        faultOf(book, "0a,1", 4);
        faultOf(book, "0a,1a,", 6);
        faultOf(book, "0a;1a", 2);
        faultOf(book, "0a1a", 2);
        faultOf(book, "0a5", 2);
        faultOf(book, "0ad", 2);
        faultOf(book, "0d,", 3);
        faultOf(book, "0da", 2);
        faultOf(book, "0dd", 2);
        faultOf(book, "0d-1", 2);
        faultOf(book, "0d00", 3);
        faultOf(book, "0d05", 3);
        faultOf(book, "0d010", 3);
        faultOf(book, "0d11", 3);
        faultOf(book, "0d19", 3);
        faultOf(book, "0d20", 3);
        faultOf(book, "0d100", 4);
        faultOf(book, "0d10a", 4);
        faultOf(book, "0d10 ", 4);
        faultOf(book, "10d10,10d1x", 10);
        faultOf(book, "23a,01a", 5);
        faultOf(book, "0a" + (char) 0, 2);
        faultOf(book, "0a" + (char) (',' + 256), 2);
        faultOf(book, (char) ('0' + 256) + "a", 0);
        faultOf(book, "\u0660a", 0);
        Check.due("errors record no state", book.count(12), 0);
    }

    /** A character that is allowed takes the fault on to the end of the text; another is the fault itself. */
    private static void everyCharacterAtEveryPlace() {
        String[] starts = {"", "0", "1", "10", "0d", "0d0", "0d1", "0d2", "0d10", "0a", "0a,", "5d,", "5d,7"};
        String digits = "0123456789";
        String[] allowed = {digits, "ad", digits + "ad", "ad", digits + ",", ",", "0,", ",", ",", ",",
            digits, digits, digits + "ad"};
        for (int n = 0; n < starts.length; n++) {
            for (char sign = 0; sign < 300; sign++) {
                TenancyDeposits book = new TenancyDeposits();
                int answer = Check.read(book, starts[n] + sign);
                boolean told = answer == -100 - starts[n].length();
                boolean want = allowed[n].indexOf(sign) < 0;
                Check.dueTrue("'" + starts[n] + "' and " + (int) sign, told == want);
            }
        }
    }

    private static void textsWithoutFault() {
        String[] texts = {"0a", "0d", "9a", "10a", "23d", "24a", "99d", "0d0", "0d9", "0d10", "99d10",
            "0a,0a", "5d,6d7,88a,9d10"};
        for (String text : texts) {
            Check.due("no items for '" + text + "'", Check.read(new TenancyDeposits(), text), UNKNOWN);
        }
    }

    /** Two tenancies with items 0 to 11 and 12 to 13, of which 13 has no claim; the first one is put. */
    private static TenancyDeposits claimed() {
        TenancyDeposits book = new TenancyDeposits();
        book.begin(5000);
        book.begin(5000);
        for (int n = 0; n < 14; n++) {
            book.addItem(n < 12 ? 0 : 1, 1000, 100, 0, 50);
        }
        book.end(0);
        book.end(1);
        for (int n = 0; n < 13; n++) {
            book.claim(n, 100 + n);
        }
        book.put(0);
        return book;
    }

    private static void answersAreDone() {
        TenancyDeposits book = claimed();
        Check.due("two disputed", Check.read(book, "0d,11a,10d"), 2);
        int[] answers = {2, 0, 0, 0, 0, 0, 0, 0, 0, 0, 2, 1};
        for (int n = 0; n < answers.length; n++) {
            Check.due("answer of " + n, book.item(n, 8), answers[n]);
        }
        Check.due("the text stays", book.count(13), 10);
        Check.due("once more", book.readAnswers(), 2);
        Check.due("answered anew", Check.read(book, "0a"), 1);
        Check.due("answer of 0", book.item(0, 8), 1);
        Check.due("answer() takes it from there", book.answer(0, false), 1);
    }

    private static void pointsAreSet() {
        TenancyDeposits book = claimed();
        book.setEvidence(0, 6, 6);
        book.setEvidence(1, 6, 6);
        book.setEvidence(2, 6, 6);
        book.setEvidence(3, 6, 6);
        Check.due("three disputed", Check.read(book, "0d2,1d,2a,3d10"), 3);
        Check.dueFloat("replaced", book.weight(0), 6f / 8f);
        Check.dueFloat("not told", book.weight(1), 0.5f);
        Check.dueFloat("accepted", book.weight(2), 0.5f);
        Check.dueFloat("ten", book.weight(3), 6f / 16f);
        Check.due("disputed already", Check.read(book, "0d0"), 3);
        Check.dueFloat("its points are set", book.weight(0), 1.0f);
        book.undo();
        Check.dueFloat("points after undo", book.weight(0), 6f / 8f);
    }

    private static void laterAnswersCount() {
        TenancyDeposits book = claimed();
        book.setEvidence(0, 5, 1);
        Check.due("accepted at last", Check.read(book, "0d5,0a"), 0);
        Check.due("answer", book.item(0, 8), 1);
        Check.dueFloat("its points stay", book.weight(0), 0.5f);
        Check.due("disputed at last", Check.read(book, "0a,0d3,0d"), 1);
        Check.dueFloat("its points", book.weight(0), 5f / 8f);
    }

    private static void allOrNone() {
        TenancyDeposits book = claimed();
        book.setEvidence(0, 4, 4);
        int states = book.count(12);
        Check.due("the last one is not known", Check.read(book, "0d9,1a,14a"), UNKNOWN);
        Check.due("the last one is not put", Check.read(book, "0d9,1a,12a"), NOT_POSSIBLE);
        Check.due("the last one has a fault", Check.read(book, "0d9,1a,2"), -108);
        Check.due("answer of 0", book.item(0, 8), 0);
        Check.due("answer of 1", book.item(1, 8), 0);
        Check.dueFloat("weight(0)", book.weight(0), 0.5f);
        Check.due("states", book.count(12), states);
    }

    private static void firstRefusalIsTold() {
        TenancyDeposits book = claimed();
        Check.due("unknown first", Check.read(book, "0a,99a,12a"), UNKNOWN);
        Check.due("not possible first", Check.read(book, "0a,12a,99a"), NOT_POSSIBLE);
        book.put(1);
        Check.due("no claim", Check.read(book, "12a,13a"), NOT_POSSIBLE);
        Check.due("now it is put", Check.read(book, "12a,0d"), 1);
        book.close(0);
        Check.due("closed", Check.read(book, "0d"), NOT_POSSIBLE);
    }

    private static void faultComesAhead() {
        Check.due("unknown and a fault", Check.read(claimed(), "99a,"), -104);
    }

    private static void disputesOfAllTenancies() {
        TenancyDeposits book = claimed();
        book.put(1);
        Check.due("of both", Check.read(book, "0d,12d,1d"), 3);
        book.close(0);
        Check.due("of the closed one too", Check.read(book, "12d4"), 3);
        Check.due("less one", Check.read(book, "12a"), 2);
    }

    private static void oneAct() {
        TenancyDeposits book = claimed();
        Check.due("three disputed", Check.read(book, "0d,1d,2d"), 3);
        Check.due("so already, all of it", book.readAnswers(), 3);
        Check.due("undo()", book.undo(), 3);
        Check.due("still disputed", book.tenancy(0, 9), 3);
        Check.due("undo()", book.undo(), 2);
        Check.due("none is", book.tenancy(0, 9), 0);
        Check.due("the text is no part of the state", book.count(13), 8);
    }

    private static void longestText() {
        TenancyDeposits book = claimed();
        StringBuilder text = new StringBuilder();
        for (int n = 0; n < 20; n++) {
            text.append(n % 10).append(n % 2 == 0 ? 'd' : 'a').append(n < 19 ? "," : "");
        }
        Check.due("twenty answers", Check.read(book, text.toString()), 5);
        Check.due("a comma behind them", book.type(','), 60);
        Check.due("and nothing behind it", book.readAnswers(), -160);
        Check.due("10d10 ten times", Check.read(book, "10d10,10d10,10d10,10d10,10d10,10d10,10d10,10d10,10d10,10d10"), 6);
    }
}
