/** The boundaries that the document names under TEXTS and in promises 13, 16 and 17: one method for each sentence. */
public final class BoundaryTextsTest {
    private static final int UNKNOWN = TenancyDeposits.UNKNOWN;
    private static final int FULL = TenancyDeposits.FULL;
    private static final int NOT_POSSIBLE = TenancyDeposits.NOT_POSSIBLE;

    public static void main(String[] args) {
        textOfSixty();
        emptyAtFirst();
        oneOrMoreAnswers();
        numberOfAnItem();
        acceptedOrDisputed();
        pointsOfAnAnswer();
        pointsReplaceThoseSet();
        faultIsTheFirstCharacterNotAllowed();
        faultIsTheLengthIfItEndsTooEarly();
        textStays();
        allOfThemOrNone();
        oneAfterTheOther();
        answerThatIsSoAlready();
        oneAct();
        disputedOfAllTenancies();
        faultIsAnError();
        faultAheadOfTheAnswers();
        firstOneTellsWhich();
        anyCharacter();
        fullAtSixty();
        lengthThatItHad();
        Check.end("BoundaryTextsTest");
    }

    /** Two put tenancies with items 0 to 11 and 12 to 23, each of value 1000, with a claim and nothing due. */
    private static TenancyDeposits allPut() {
        TenancyDeposits book = new TenancyDeposits();
        for (int n = 0; n < 24; n++) {
            if (n % 12 == 0) {
                book.begin(50000);
            }
            book.addItem(n / 12, 1000, 100, 0, 50);
        }
        for (int tenancy = 0; tenancy < 2; tenancy++) {
            book.end(tenancy);
            for (int n = 0; n < 12; n++) {
                book.claim(tenancy * 12 + n, 100);
            }
            book.put(tenancy);
        }
        return book;
    }

    private static void reads(String text, int want) {
        Check.due("'" + text + "'", Check.read(allPut(), text), want);
    }

    private static void textOfSixty() {
        Check.says("There is a text of at most 60 characters");
        TenancyDeposits book = allPut();
        Check.type(book, "0d10,1d10,2d10,3d10,4d10,5d10,6d10,7d10,8d10,9d10,10d10,11d");
        Check.due("59 characters", book.count(13), 59);
        Check.due("the 60th", book.type('9'), 60);
        Check.due("a 61st", book.type('9'), FULL);
        Check.due("count(13)", book.count(13), 60);
        Check.due("all sixty are read", book.readAnswers(), 12);
        book.setEvidence(11, 1, 9);
        Check.dueFloat("the last one counts", book.weight(11), 0.1f);
        book.undo();
        Check.dueFloat("no evidence of the landlord", book.weight(11), 0.0f);
    }

    private static void emptyAtFirst() {
        Check.says("empty at first");
        TenancyDeposits book = new TenancyDeposits();
        Check.due("count(13)", book.count(13), 0);
        Check.due("readAnswers()", book.readAnswers(), -100);
        Check.due("clearText()", book.clearText(), 0);
        Check.due("type", book.type('0'), 1);
    }

    private static void oneOrMoreAnswers() {
        Check.says("A text of answers is one or more answers with \",\" between two");
        reads("", -100);
        reads("0d", 1);
        reads("0d,1d", 2);
        reads("0d,1d,2d,3d,4d,5d,6d,7d,8d,9d,0d,1d,2d,3d,4d,5d,6d,7d,8d,9d", 10);
        reads("0d,", -103);
        reads(",0d", -100);
        reads("0d,,1d", -103);
        reads("0d 1d", -102);
        reads("0a1d", -102);
        reads("0d10,1d", 2);
        reads("0d101d", -104);
    }

    private static void numberOfAnItem() {
        Check.says("one or two digits, without a zero in front unless it is the single digit 0");
        for (int n = 0; n < 24; n++) {
            TenancyDeposits book = allPut();
            Check.due("item " + n, Check.read(book, n + "d"), 1);
            Check.due("answer of item " + n, book.item(n, 8), 2);
        }
        reads("24d", UNKNOWN);
        reads("99d", UNKNOWN);
        reads("100d", -102);
        reads("231d", -102);
        reads("00d", -101);
        reads("01d", -101);
        reads("09d", -101);
        reads("d", -100);
        reads("-1d", -100);
        reads("+1d", -100);
    }

    private static void acceptedOrDisputed() {
        Check.says("\"a\" (accepted) or \"d\" (disputed)");
        TenancyDeposits book = allPut();
        Check.due("a", Check.read(book, "0a"), 0);
        Check.due("is accepted", book.item(0, 8), 1);
        Check.due("d", Check.read(book, "0d"), 1);
        Check.due("is disputed", book.item(0, 8), 2);
        reads("0A", -101);
        reads("0D", -101);
        reads("0b", -101);
        reads("0e", -101);
        reads("0`", -101);
        reads("0c", -101);
        reads("0ad", -102);
        reads("0dd", -102);
        reads("0aa", -102);
    }

    private static void pointsOfAnAnswer() {
        Check.says("\"d\" and points of the tenant's evidence (one or two digits, 0 to 10, likewise");
        for (int points = 0; points <= 10; points++) {
            TenancyDeposits book = allPut();
            book.setEvidence(0, 10, 0);
            Check.due("d" + points, Check.read(book, "0d" + points), 1);
            Check.dueFloat("weight by " + points, book.weight(0), 10f / (10f + points));
        }
        reads("0d11", -103);
        reads("0d12", -103);
        reads("0d19", -103);
        reads("0d20", -103);
        reads("0d90", -103);
        reads("0d99", -103);
        reads("0d100", -104);
        reads("0d00", -103);
        reads("0d01", -103);
        reads("0d010", -103);
        reads("0d-1", -102);
        reads("0a5", -102);
        reads("0a0", -102);
    }

    private static void pointsReplaceThoseSet() {
        Check.says("they replace those that are set");
        TenancyDeposits book = allPut();
        book.setEvidence(0, 4, 8);
        Check.read(book, "0d");
        Check.dueFloat("no points told", book.weight(0), 4f / 12f);
        Check.read(book, "0d0");
        Check.dueFloat("0 are points too", book.weight(0), 1.0f);
        Check.read(book, "0d10");
        Check.dueFloat("10 in their place", book.weight(0), 4f / 14f);
        Check.read(book, "0a");
        Check.dueFloat("they stay", book.weight(0), 4f / 14f);
    }

    private static void faultIsTheFirstCharacterNotAllowed() {
        Check.says("the index, from 0, of the first character that is not allowed at its place");
        reads("x", -100);
        reads("0x", -101);
        reads("10x", -102);
        reads("0ax", -102);
        reads("0dx", -102);
        reads("0d1x", -103);
        reads("0d10x", -104);
        reads("0a,x", -103);
        reads("0x,x", -101);
        reads("0a,1d,22d10,3ax", -114);
        String fiftyNine = "0d,1d,2d,3d,4d,5d,6d,7d,8d,9d,0d,1d,2d,3d,4d,5d,6d,7d,8d,9d";
        reads(fiftyNine + "x", -159);
        reads(fiftyNine + "5", 10);
        reads("x" + fiftyNine, -100);
        reads("0d" + (char) 0, -102);
        reads("0d" + (char) 255, -102);
        reads("0d" + (char) 65535, -102);
    }

    private static void faultIsTheLengthIfItEndsTooEarly() {
        Check.says("or the length of the text if it ends too early (the empty text does)");
        reads("", -100);
        reads("0", -101);
        reads("1", -101);
        reads("23", -102);
        reads("0a,", -103);
        reads("0d10,", -105);
        reads("0a,2", -104);
        reads("0a,23", -105);
        String fiftyNine = "0d,1d,2d,3d,4d,5d,6d,7d,8d,9d,0d,1d,2d,3d,4d,5d,6d,7d,8d,9d";
        reads(fiftyNine + ",", -160);
        reads("10d,11d,2d,3d,4d,5d,6d,7d,8d,9d,0d,1d,2d,3d,4d,5d,6d,7d,8d,9", -160);
        reads("10d,11d,12d,3d,4d,5d,6d,7d,8d,9d,0d,1d,2d,3d,4d,5d,6d,7d,8d,", -160);
    }

    private static void textStays() {
        Check.says("Does the answers of the text, which stays");
        TenancyDeposits book = allPut();
        Check.due("read", Check.read(book, "0d,1a"), 1);
        Check.due("its length", book.count(13), 5);
        book.answer(0, true);
        Check.due("read again", book.readAnswers(), 1);
        Check.due("typed behind it", book.type(','), 6);
        Check.due("read with a fault", book.readAnswers(), -106);
        Check.due("its length", book.count(13), 6);
        Check.due("more answers", Check.read(book, "0d,1a,99a"), UNKNOWN);
        Check.due("no more of those", Check.read(book, "2d,3d"), 3);
    }

    private static void allOfThemOrNone() {
        Check.says("all of them, or none");
        String[] texts = {"0d9,1a,24a", "0d9,1a,2", "0d9,1a,2x"};
        int[] answers = {UNKNOWN, -108, -108};
        for (int n = 0; n < texts.length; n++) {
            TenancyDeposits book = allPut();
            book.setEvidence(0, 1, 1);
            Check.due(texts[n], Check.read(book, texts[n]), answers[n]);
            Check.due("no answer of 0", book.item(0, 8), 0);
            Check.due("no answer of 1", book.item(1, 8), 0);
            Check.dueFloat("no points of 0", book.weight(0), 0.5f);
            Check.due("nothing to undo but the evidence", book.undo(), 3);
            Check.dueFloat("points of 0 at first", book.weight(0), 0.5f);
            Check.due("put still", book.tenancy(1, 2), 2);
        }
    }

    private static void oneAfterTheOther() {
        Check.says("one after the other");
        TenancyDeposits book = allPut();
        book.setEvidence(0, 5, 0);
        Check.due("the last one stands", Check.read(book, "0d5,0a,0d"), 1);
        Check.dueFloat("its points are of the first one", book.weight(0), 0.5f);
        Check.due("the last one stands", Check.read(book, "0d0,0d10,0a"), 0);
        Check.dueFloat("its points are of the second one", book.weight(0), 5f / 15f);
    }

    private static void answerThatIsSoAlready() {
        Check.says("an answer that is so already does nothing but set its points");
        TenancyDeposits book = allPut();
        book.answer(0, false);
        book.answer(1, true);
        book.setEvidence(0, 3, 3);
        Check.due("disputed already, accepted already", Check.read(book, "0d9,1a"), 1);
        Check.due("disputed still", book.item(0, 8), 2);
        Check.due("accepted still", book.item(1, 8), 1);
        Check.dueFloat("its points", book.weight(0), 0.25f);
        Check.due("nothing changes at all, and it is no NONE", book.readAnswers(), 1);
    }

    private static void oneAct() {
        Check.says("This is one act");
        TenancyDeposits book = allPut();
        book.answer(5, true);
        book.undo();
        Check.due("states ahead of it", book.count(12), 3);
        Check.due("three answers", Check.read(book, "0d9,1d,2a"), 2);
        Check.due("one state more", book.count(12), 4);
        Check.due("undo()", book.undo(), 3);
        for (int n = 0; n < 3; n++) {
            Check.due("no answer of " + n, book.item(n, 8), 0);
        }
        Check.due("put still", book.tenancy(1, 2), 2);
    }

    private static void disputedOfAllTenancies() {
        Check.says("Returns how many items of all tenancies are disputed then");
        TenancyDeposits book = allPut();
        Check.due("none", Check.read(book, "0a,23a"), 0);
        Check.due("one of each", Check.read(book, "0d,23d"), 2);
        book.answer(12, false);
        Check.due("one by answer()", Check.read(book, "1d"), 4);
        book.close(0);
        Check.due("of a closed one too", Check.read(book, "12a"), 3);
        TenancyDeposits all = allPut();
        Check.due("item 0 to 11", Check.read(all, "0d,1d,2d,3d,4d,5d,6d,7d,8d,9d,10d,11d"), 12);
        Check.due("item 12 to 23", Check.read(all, "12d,13d,14d,15d,16d,17d,18d,19d,20d,21d,22d,23d"), 24);
    }

    private static void faultIsAnError() {
        Check.says("-100 minus the fault of the text if it has one (which is an error)");
        TenancyDeposits book = new TenancyDeposits();
        Check.due("fault 0", book.readAnswers(), -100);
        Check.due("it records nothing", book.count(12), 0);
        Check.due("nothing to undo", book.undo(), TenancyDeposits.NONE);
    }

    private static void faultAheadOfTheAnswers() {
        Check.says("-100 minus the fault ..; UNKNOWN or NOT_POSSIBLE: the order is the order of the checks");
        Check.due("unknown, and a fault", Check.read(allPut(), "24a,x"), -104);
        Check.due("not possible, and a fault", Check.read(Books.inState(3), "0a,"), -103);
        Check.due("no item at all, and a fault", Check.read(new TenancyDeposits(), "0a5"), -102);
    }

    private static void firstOneTellsWhich() {
        Check.says("if answer() would return this for any of them (the first one in the text tells which)");
        Check.due("no item", Check.read(new TenancyDeposits(), "0a"), UNKNOWN);
        int[] states = {NOT_POSSIBLE, NOT_POSSIBLE, 0, NOT_POSSIBLE};
        for (int state = 0; state <= 3; state++) {
            Check.due("state " + state, Check.read(Books.inState(state), "0a"), states[state]);
        }
        Check.due("no claim", Check.read(Books.inState(2), "1a"), NOT_POSSIBLE);
        Check.due("no claim, then unknown", Check.read(Books.inState(2), "0a,1a,2a"), NOT_POSSIBLE);
        Check.due("unknown, then no claim", Check.read(Books.inState(2), "0a,2a,1a"), UNKNOWN);
        Check.due("the last one is unknown", Check.read(Books.inState(2), "0a,0d,0a,0d,2d"), UNKNOWN);
        Check.due("the last one has no claim", Check.read(Books.inState(2), "0a,0d,0a,0d,1d"), NOT_POSSIBLE);
    }

    private static void anyCharacter() {
        Check.says("`character`: any character");
        TenancyDeposits book = new TenancyDeposits();
        char[] any = {0, 10, ' ', ',', 127, 128, 255, 256, 0xD800, 0xFFFF};
        for (int n = 0; n < any.length; n++) {
            Check.due("type " + (int) any[n], book.type(any[n]), n + 1);
        }
        Check.due("the first one is the fault", book.readAnswers(), -100);
    }

    private static void fullAtSixty() {
        Check.says("Returns the length of the text then; FULL if it has 60 characters");
        TenancyDeposits book = new TenancyDeposits();
        for (int n = 1; n <= 60; n++) {
            Check.due("type", book.type('0'), n);
        }
        Check.due("type", book.type('0'), FULL);
        Check.due("type again", book.type('0'), FULL);
        Check.due("count(13)", book.count(13), 60);
        book.clearText();
        Check.due("room again", book.type('0'), 1);
        Check.due("it is no act", book.count(12), 0);
    }

    private static void lengthThatItHad() {
        Check.says("Returns the length that it had");
        TenancyDeposits book = new TenancyDeposits();
        Check.due("none", book.clearText(), 0);
        book.type('0');
        Check.due("one", book.clearText(), 1);
        Check.due("none again", book.clearText(), 0);
        for (int n = 0; n < 61; n++) {
            book.type('0');
        }
        Check.due("sixty", book.clearText(), 60);
        Check.due("it is empty", book.readAnswers(), -100);
        Check.due("it is no act", book.count(12), 0);
    }
}
