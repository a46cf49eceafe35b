/** Promises 18 to 20 and 29: undo, the snapshot, the history's four states, and the counts. */
public final class HistoryTest {
    private static final int NONE = TenancyDeposits.NONE;

    public static void main(String[] args) {
        undo();
        fourStatesAreKept();
        whatIsRecorded();
        whatIsNotRecorded();
        everyActIsUndone();
        snapshot();
        snapshotIsNoPartOfTheState();
        restoreIsAnAct();
        aWholeBookComesBack();
        whatComesAnewAfterUndoIsFresh();
        counts();
        Check.end("HistoryTest");
    }

    private static void undo() {
        TenancyDeposits book = new TenancyDeposits();
        Check.due("undo()", book.undo(), NONE);
        book.pass(1);
        book.pass(2);
        Check.due("undo()", book.undo(), 1);
        Check.due("day", book.count(0), 1);
        Check.due("undo()", book.undo(), 0);
        Check.due("day", book.count(0), 0);
        Check.due("undo()", book.undo(), NONE);
        Check.due("day", book.count(0), 0);
    }

    private static void fourStatesAreKept() {
        TenancyDeposits book = new TenancyDeposits();
        for (int n = 1; n <= 11; n++) {
            book.pass(n);
            Check.due("count(12)", book.count(12), Math.min(n, 4));
        }
        int[] days = {55, 45, 36, 28};
        for (int n = 0; n < 4; n++) {
            Check.due("undo()", book.undo(), 3 - n);
            Check.due("day", book.count(0), days[n]);
        }
        Check.due("undo()", book.undo(), NONE);
        book.pass(1);
        book.pass(1);
        book.undo();
        for (int n = 0; n < 9; n++) {
            book.pass(10);
        }
        Check.due("undo()", book.undo(), 3);
        Check.due("day", book.count(0), 109);
    }

    private static void whatIsRecorded() {
        TenancyDeposits book = new TenancyDeposits();
        recorded(book, "setRate", book.setRate(0), 1);
        recorded(book, "setFee", book.setFee(1000), 5000);
        recorded(book, "pass", book.pass(1), 1);
        recorded(book, "begin", book.begin(5000), 0);
        recorded(book, "addItem", book.addItem(0, 1000, 100, 0, 50), 0);
        recorded(book, "end", book.end(0), 0);
        recorded(book, "inspect", book.inspect(0, 10), 400);
        recorded(book, "claim", book.claim(0, 900), 0);
        recorded(book, "claimRent", book.claimRent(0, 70), 0);
        recorded(book, "put", book.put(0), 1);
        recorded(book, "answer", book.answer(0, false), 0);
        Check.type(book, "0a");
        recorded(book, "readAnswers", book.readAnswers(), 0);
        recorded(book, "setEvidence", book.setEvidence(0, 0, 0), 900);
        recorded(book, "close", book.close(0), 4030);
        book.keep();
        recorded(book, "restore", book.restore(), 1);
    }

    private static void recorded(TenancyDeposits book, String act, int got, int want) {
        Check.due(act, got, want);
        Check.due("states behind " + act, book.count(12), 1);
        emptyHistory(book);
    }

    /** Fills the history with the state as it is, so that undoing all of it changes nothing. */
    private static void emptyHistory(TenancyDeposits book) {
        book.keep();
        for (int n = 0; n < 5; n++) {
            book.restore();
        }
        for (int n = 0; n < 4; n++) {
            book.undo();
        }
    }

    private static void whatIsNotRecorded() {
        TenancyDeposits book = new TenancyDeposits();
        book.type('0');
        book.type('d');
        book.clearText();
        book.keep();
        book.rate();
        book.count(0);
        book.undo();
        book.setFee(5000);
        book.setFee(-1);
        book.pass(0);
        book.readAnswers();
        book.put(0);
        Check.due("states", book.count(12), 0);
        book.begin(5000);
        book.addItem(0, 1000, 100, 0, 50);
        book.undo();
        book.undo();
        Check.due("states", book.count(12), 0);
    }

    private static void everyActIsUndone() {
        TenancyDeposits book = new TenancyDeposits();
        book.begin(5000);
        book.addItem(0, 1000, 100, 0, 50);
        book.setRate(0);
        book.undo();
        Check.dueFloat("rate", book.rate(), 0.02f);
        book.end(0);
        book.undo();
        Check.due("running", book.tenancy(0, 2), 0);
        Check.due("no condition", book.item(0, 4), NONE);
        book.end(0);
        book.claim(0, 900);
        book.undo();
        Check.due("no claim", book.item(0, 7), 0);
        book.claimRent(0, 900);
        book.undo();
        Check.due("no rent", book.tenancy(0, 6), 0);
        book.claim(0, 800);
        book.put(0);
        book.undo();
        Check.due("not put", book.tenancy(0, 2), 1);
        book.put(0);
        book.answer(0, true);
        book.undo();
        Check.due("no answer", book.item(0, 8), 0);
        book.close(0);
        book.undo();
        Check.due("not closed", book.tenancy(0, 2), 2);
        Check.due("nothing paid", book.count(8) + book.count(9), 0);
    }

    private static void snapshot() {
        TenancyDeposits book = new TenancyDeposits();
        Check.due("restore()", book.restore(), NONE);
        Check.due("keep() of the empty book", book.keep(), 0);
        book.pass(3);
        book.begin(5000);
        Check.due("keep()", book.keep(), 3);
        book.pass(4);
        book.begin(6000);
        book.addItem(1, 1000, 100, 0, 50);
        Check.due("restore()", book.restore(), 3);
        Check.due("tenancies", book.count(1), 1);
        Check.due("items", book.count(6), 0);
        book.setFee(1);
        Check.due("it stays", book.restore(), 3);
        Check.due("fee", book.count(7), 5000);
        Check.due("undo()", book.undo(), 3);
        Check.due("fee", book.count(7), 1);
        book.pass(10);
        Check.due("in place of the one that was", book.keep(), 13);
        book.pass(1);
        Check.due("restore()", book.restore(), 13);
        Check.due("fee", book.count(7), 1);
    }

    private static void snapshotIsNoPartOfTheState() {
        TenancyDeposits book = new TenancyDeposits();
        book.pass(5);
        Check.due("keep()", book.keep(), 5);
        Check.due("undo()", book.undo(), 0);
        Check.due("the snapshot is there", book.restore(), 5);
        Check.type(book, "0a");
        book.undo();
        Check.due("the text stays", book.count(13), 2);
        book.restore();
        Check.due("the text stays", book.count(13), 2);
    }

    private static void restoreIsAnAct() {
        TenancyDeposits book = new TenancyDeposits();
        book.keep();
        Check.due("restore() without a change", book.restore(), 0);
        Check.due("is recorded", book.count(12), 1);
        for (int n = 0; n < 5; n++) {
            book.restore();
        }
        Check.due("four at most", book.count(12), 4);
    }

    private static void aWholeBookComesBack() {
        TenancyDeposits book = new TenancyDeposits();
        book.keep();
        book.begin(5000);
        book.addItem(0, 1000, 100, 7, 50);
        settled(book);
        int[] facts = Facts.ofState(book);
        book.restore();
        book.pass(100);
        book.begin(90000);
        book.addItem(0, 200000, 9000, 900, 90);
        for (int n = 0; n < 4; n++) {
            book.undo();
        }
        Facts.theSame("undone", Facts.ofState(book), facts);
        book.keep();
        book.undo();
        book.begin(70000);
        book.addItem(1, 300000, 8000, 800, 80);
        book.setRate(0);
        book.setFee(1);
        book.restore();
        Facts.theSame("restored", Facts.ofState(book), facts);
    }

    private static void settled(TenancyDeposits book) {
        book.pass(20);
        book.end(0);
        book.inspect(0, 10);
        book.claim(0, 900);
        book.claimRent(0, 7000);
        book.setEvidence(0, 3, 5);
        book.put(0);
        book.answer(0, false);
        book.setFee(300);
        book.pass(30);
        book.close(0);
    }

    private static void whatComesAnewAfterUndoIsFresh() {
        TenancyDeposits book = new TenancyDeposits();
        book.begin(5000);
        book.keep();
        book.addItem(0, 1000, 100, 0, 50);
        book.end(0);
        book.inspect(0, 0);
        book.claim(0, 900);
        book.claimRent(0, 70);
        book.setEvidence(0, 3, 5);
        book.put(0);
        book.answer(0, false);
        book.close(0);
        book.restore();
        Check.due("an item anew", book.addItem(0, 1000, 100, 0, 50), 0);
        Check.due("no claim", book.item(0, 7), 0);
        Check.due("no answer", book.item(0, 8), 0);
        Check.due("no condition", book.item(0, 4), NONE);
        Check.dueFloat("no evidence", book.weight(0), 0.5f);
        Check.due("no dues", book.tenancy(0, 8), 0);
        Check.due("no rent", book.tenancy(0, 6), 0);
        Check.due("end(0)", book.end(0), 0);
        Check.due("the fair condition", book.item(0, 4), 50);
        Check.due("nothing is taken", book.outcome(0, 0), 5000);
    }

    private static void counts() {
        TenancyDeposits book = new TenancyDeposits();
        book.setRate(0);
        for (int n = 0; n < 6; n++) {
            book.begin(10000);
            book.addItem(n, 1000, 100, 0, 50);
        }
        book.pass(12);
        for (int n = 1; n < 6; n++) {
            book.end(n);
        }
        book.inspect(5, 0);
        book.claim(5, 800);
        for (int n = 3; n < 6; n++) {
            book.put(n);
        }
        book.answer(5, false);
        book.setFee(100);
        // 1000 * 0.88f * 0.38f is due; the rest of the claim is weighed by a half.
        int award = 334 + (800 - 334) / 2;
        int landlord = 100 * (800 - award) / 800;
        book.close(5);
        Check.type(book, "abc");
        int[] want = {12, 6, 1, 2, 2, 1, 6, 100, 10000 - award - (100 - landlord), award, 100, 0, 4, 3};
        for (int what = 0; what < want.length; what++) {
            Check.due("count(" + what + ")", book.count(what), want[what]);
        }
        int[] wrong = {-1, 14, Integer.MAX_VALUE, Integer.MIN_VALUE};
        for (int what : wrong) {
            Check.due("count(" + what + ")", book.count(what), TenancyDeposits.BAD_VALUE);
        }
    }
}
