import java.util.ArrayList;
import java.util.List;
import java.util.function.ToIntFunction;

/** The boundaries that the document names under HISTORY and in promises 18 to 20: one method for each sentence. */
public final class BoundaryHistoryTest {
    private static final int NONE = TenancyDeposits.NONE;

    public static void main(String[] args) {
        atMostFourStates();
        oldestIsDropped();
        removesAndRestoresTheLatest();
        everyOrderOfActsAndUndos();
        everyActRecordsTheStateBefore();
        whatIsNoActRecordsNothing();
        oneSnapshot();
        snapshotIsEmptyAtFirst();
        stateIsEverythingBut();
        inventoriesComeBack();
        closingsComeBack();
        endsComeBack();
        whatBeginsAnewIsFresh();
        statesThatAreLeft();
        inPlaceOfTheOneThatWas();
        keepReturnsTheDay();
        snapshotStays();
        restoreIsAnAct();
        restoreReturnsTheDayThen();
        roomComesBack();
        Check.end("BoundaryHistoryTest");
    }

    private static void atMostFourStates() {
        Check.says("A history of at most 4 states is kept");
        TenancyDeposits book = new TenancyDeposits();
        int[] states = {1, 2, 3, 4, 4, 4, 4, 4, 4};
        Check.due("at first", book.count(12), 0);
        for (int want : states) {
            book.pass(1);
            Check.due("count(12)", book.count(12), want);
        }
        for (int left = 3; left >= 0; left--) {
            Check.due("undo()", book.undo(), left);
        }
        Check.due("a fifth", book.undo(), NONE);
    }

    private static void oldestIsDropped() {
        Check.says("when one more is recorded, the oldest one is dropped");
        for (int acts = 1; acts <= 13; acts++) {
            TenancyDeposits book = new TenancyDeposits();
            for (int n = 0; n < acts; n++) {
                book.pass(1);
            }
            for (int n = 0; n < 5; n++) {
                book.undo();
            }
            Check.due("the oldest of " + acts, book.count(0), Math.max(0, acts - 4));
        }
    }

    private static void removesAndRestoresTheLatest() {
        Check.says("undo() removes and restores the latest one");
        TenancyDeposits book = new TenancyDeposits();
        book.pass(1);
        book.setFee(7);
        book.begin(1000);
        Check.due("undo()", book.undo(), 2);
        Check.due("the tenancy is gone", book.count(1), 0);
        Check.due("the fee is not", book.count(7), 7);
        Check.due("undo()", book.undo(), 1);
        Check.due("the fee is", book.count(7), 5000);
        Check.due("the day is not", book.count(0), 1);
        Check.due("undo()", book.undo(), 0);
        Check.due("the day is", book.count(0), 0);
        Check.due("undo()", book.undo(), NONE);
        Check.due("the day stays", book.count(0), 0);
    }

    /** The places of the history are used again: each order of twelve acts and undos, against a plain list. */
    private static void everyOrderOfActsAndUndos() {
        Check.says("at most 4 states; the oldest one is dropped; removes and restores the latest one");
        for (int order = 0; order < 4096; order++) {
            TenancyDeposits book = new TenancyDeposits();
            List<Integer> days = new ArrayList<>();
            int day = 0;
            for (int n = 0; n < 12; n++) {
                if ((order >> n & 1) == 0) {
                    days.add(day);
                    if (days.size() > 4) {
                        days.remove(0);
                    }
                    day += n + 1;
                    Check.due("pass in order " + order, book.pass(n + 1), day);
                } else if (days.isEmpty()) {
                    Check.due("undo in order " + order, book.undo(), NONE);
                } else {
                    day = days.remove(days.size() - 1);
                    Check.due("undo in order " + order, book.undo(), days.size());
                }
                Check.due("day in order " + order, book.count(0), day);
                Check.due("states in order " + order, book.count(12), days.size());
            }
        }
    }

    /** A book with an empty history: what was recorded ahead is undone with nothing changed. */
    private static TenancyDeposits withEmptyHistory(int state) {
        TenancyDeposits book = Books.inState(state);
        book.keep();
        for (int n = 0; n < 4; n++) {
            book.restore();
        }
        for (int n = 0; n < 4; n++) {
            book.undo();
        }
        Check.due("states at first", book.count(12), 0);
        return book;
    }

    private static void everyActRecordsTheStateBefore() {
        Check.says("Each call of a method that is described as an act .. records the state that was before it");
        records("setRate", 0, book -> book.setRate(1), 1);
        records("setFee", 0, book -> book.setFee(0), 5000);
        records("pass", 0, book -> book.pass(1), 101);
        records("begin", 0, book -> book.begin(1000), 1);
        records("end", 0, book -> book.end(0), 100);
        records("inspect", 1, book -> book.inspect(0, 49), 50);
        records("claim", 1, book -> book.claim(0, 1), 4000);
        records("claim of 0", 1, book -> book.claim(0, 0), 4000);
        records("claimRent", 1, book -> book.claimRent(0, 1), 0);
        records("put", 1, book -> book.put(0), 1);
        records("answer true", 2, book -> book.answer(0, true), 0);
        records("answer false", 2, book -> book.answer(0, false), 0);
        records("readAnswers", 2, book -> Check.read(book, "0d3"), 1);
        records("setEvidence", 1, book -> book.setEvidence(0, 1, 0), 4000);
        records("setEvidence without a change", 2, book -> book.setEvidence(0, 0, 0), 4000);
        records("close", 2, book -> book.close(0), 46000);
        records("restore without a change", 3, TenancyDeposits::restore, 100);
        recordsAnItem();
        recordsReading();
    }

    private static void records(String name, int state, ToIntFunction<TenancyDeposits> act, int want) {
        TenancyDeposits book = withEmptyHistory(state);
        int[] facts = Facts.ofState(book);
        Check.due(name, act.applyAsInt(book), want);
        Check.due("states behind " + name, book.count(12), 1);
        Check.due("undo of " + name, book.undo(), 0);
        Facts.theSame("undo of " + name, Facts.ofState(book), facts);
        Check.due("nothing more behind " + name, book.undo(), NONE);
    }

    private static void recordsAnItem() {
        TenancyDeposits book = new TenancyDeposits();
        book.begin(1000);
        book.undo();
        book.begin(1000);
        int[] facts = Facts.ofState(book);
        Check.due("addItem", book.addItem(0, 100, 30, 0, 50), 0);
        Check.due("states", book.count(12), 2);
        Check.due("undo()", book.undo(), 1);
        Facts.theSame("undo of addItem", Facts.ofState(book), facts);
    }

    private static void recordsReading() {
        TenancyDeposits book = withEmptyHistory(2);
        Check.read(book, "0d3");
        Check.due("readAnswers without a change", book.readAnswers(), 1);
        Check.due("states", book.count(12), 2);
        book.undo();
        Check.due("disputed still", book.item(0, 8), 2);
    }

    private static void whatIsNoActRecordsNothing() {
        Check.says("Each call of a method that is described as an act");
        TenancyDeposits book = withEmptyHistory(2);
        int[] facts = Facts.ofState(book);
        book.type('0');
        book.type('d');
        book.clearText();
        book.keep();
        book.rate();
        book.rest(0);
        book.weight(0);
        book.reason(0);
        book.undo();
        Check.due("states", book.count(12), 0);
        Facts.theSame("it", Facts.ofState(book), facts);
        Check.due("undo()", book.undo(), NONE);
    }

    private static void oneSnapshot() {
        Check.says("There is one snapshot");
        TenancyDeposits book = new TenancyDeposits();
        book.keep();
        book.pass(5);
        book.keep();
        book.pass(6);
        Check.due("the latest one", book.restore(), 5);
        Check.due("and the same again", book.restore(), 5);
    }

    private static void snapshotIsEmptyAtFirst() {
        Check.says("empty at first");
        TenancyDeposits book = new TenancyDeposits();
        Check.due("restore()", book.restore(), NONE);
        book.pass(5);
        Check.due("restore()", book.restore(), NONE);
        Check.due("it records nothing", book.count(12), 1);
        Check.due("the day stays", book.count(0), 5);
        book.keep();
        Check.due("restore()", book.restore(), 5);
    }

    private static void stateIsEverythingBut() {
        Check.says("A state is everything but the text, the history and the snapshot");
        TenancyDeposits book = Books.inState(2);
        book.answer(0, false);
        book.setEvidence(0, 2, 6);
        book.setFee(400);
        int[] facts = Facts.ofState(book);
        book.keep();
        book.close(0);
        book.setRate(1);
        book.begin(9000);
        book.addItem(1, 700, 70, 7, 77);
        Check.type(book, "0d");
        for (int n = 0; n < 4; n++) {
            book.undo();
        }
        Facts.theSame("undone", Facts.ofState(book), facts);
        Check.due("the text is not undone", book.count(13), 2);
        book.pass(900);
        Check.due("the snapshot is not", book.restore(), 100);
        Facts.theSame("restored", Facts.ofState(book), facts);
        Check.due("the text is not restored", book.count(13), 2);
        Check.due("nor the history", book.count(12), 2);
    }

    /** Other tenancies and items were in the same places meanwhile. */
    private static void inventoriesComeBack() {
        Check.says("A state is everything but the text, the history and the snapshot");
        TenancyDeposits book = new TenancyDeposits();
        book.pass(5);
        book.begin(1000);
        book.begin(2000);
        book.addItem(0, 300, 40, 5, 60);
        book.addItem(1, 400, 50, 6, 70);
        int[] facts = Facts.ofState(book);
        book.keep();
        for (int n = 0; n < 4; n++) {
            book.undo();
        }
        book.pass(9);
        book.begin(7000);
        book.begin(8000);
        book.addItem(1, 900, 90, 9, 91);
        book.addItem(0, 910, 91, 8, 92);
        int[] others = Facts.ofState(book);
        Check.due("restore()", book.restore(), 5);
        Facts.theSame("restored", Facts.ofState(book), facts);
        book.undo();
        Facts.theSame("undone", Facts.ofState(book), others);
    }

    private static void closingsComeBack() {
        Check.says("A state is everything but the text, the history and the snapshot");
        TenancyDeposits book = Books.inState(1);
        book.setRate(0x3DCCCCCD);
        closed(book, 5, 5, 0);
        int[] facts = Facts.ofState(book);
        book.keep();
        for (int n = 0; n < 4; n++) {
            book.undo();
        }
        book.pass(400);
        book.claim(0, 9000);
        book.claimRent(0, 60000);
        book.setFee(50000);
        closed(book, 1, 9, 90);
        int[] others = Facts.ofState(book);
        Check.due("restore()", book.restore(), 100);
        Facts.theSame("restored", Facts.ofState(book), facts);
        book.undo();
        Facts.theSame("undone", Facts.ofState(book), others);
        Check.dueTrue("the two are not alike", others[4] != facts[4] && others[10] != facts[10]);
    }

    private static void endsComeBack() {
        Check.says("A state is everything but the text, the history and the snapshot");
        TenancyDeposits book = Books.inState(0);
        book.keep();
        book.end(0);
        book.pass(7);
        int[] facts = Facts.ofState(book);
        book.keep();
        book.undo();
        book.undo();
        book.pass(20);
        book.end(0);
        int[] others = Facts.ofState(book);
        book.restore();
        Facts.theSame("restored", Facts.ofState(book), facts);
        Check.due("days", book.tenancy(0, 3), 100);
        book.undo();
        Facts.theSame("undone", Facts.ofState(book), others);
        Check.due("days", book.tenancy(0, 3), 120);
    }

    private static void closed(TenancyDeposits book, int landlord, int tenant, int days) {
        book.put(0);
        book.answer(0, false);
        book.setEvidence(0, landlord, tenant);
        if (days > 0) {
            book.pass(days);
        }
        book.close(0);
    }

    private static void whatBeginsAnewIsFresh() {
        Check.says("Begins a tenancy .. a claim (0 at first) .. an answer (0 none) .. points (0 at first)");
        TenancyDeposits book = new TenancyDeposits();
        book.keep();
        book.begin(5000);
        book.addItem(0, 1000, 100, 0, 50);
        book.end(0);
        book.inspect(0, 10);
        book.claimRent(0, 70);
        book.claim(0, 900);
        book.put(0);
        book.answer(0, false);
        book.setEvidence(0, 1, 9);
        book.close(0);
        book.restore();
        book.begin(6000);
        book.addItem(0, 2000, 100, 0, 60);
        TenancyDeposits fresh = new TenancyDeposits();
        fresh.begin(6000);
        fresh.addItem(0, 2000, 100, 0, 60);
        Facts.theSame("begun", Facts.ofState(book), Facts.ofState(fresh));
        book.end(0);
        fresh.end(0);
        Facts.theSame("ended", Facts.ofState(book), Facts.ofState(fresh));
        book.put(0);
        fresh.put(0);
        Check.due("close(0)", book.close(0), fresh.close(0));
        Facts.theSame("closed", Facts.ofState(book), Facts.ofState(fresh));
    }

    private static void statesThatAreLeft() {
        Check.says("Returns the number of states that are left; NONE if the history is empty");
        TenancyDeposits book = new TenancyDeposits();
        Check.due("empty at first", book.undo(), NONE);
        book.pass(1);
        Check.due("0 is no NONE", book.undo(), 0);
        Check.due("empty again", book.undo(), NONE);
        for (int n = 0; n < 9; n++) {
            book.pass(1);
        }
        Check.due("of four", book.undo(), 3);
    }

    private static void inPlaceOfTheOneThatWas() {
        Check.says("Takes a snapshot of the state, in place of the one that was");
        TenancyDeposits book = new TenancyDeposits();
        book.begin(1000);
        book.begin(2000);
        book.addItem(1, 100, 30, 0, 10);
        book.keep();
        book.undo();
        book.undo();
        Check.due("keep() of less", book.keep(), 0);
        book.begin(3000);
        book.addItem(1, 200, 40, 1, 20);
        book.restore();
        Check.due("tenancies", book.count(1), 1);
        Check.due("items", book.count(6), 0);
    }

    private static void keepReturnsTheDay() {
        Check.says("Returns the day");
        Check.due("the first day", new TenancyDeposits().keep(), 0);
        Check.due("the last day", Books.onLastDay().keep(), 99999);
    }

    private static void snapshotStays() {
        Check.says("Restores the state of the snapshot, which stays");
        TenancyDeposits book = Books.inState(1);
        book.keep();
        int[] facts = Facts.ofState(book);
        for (int n = 0; n < 6; n++) {
            book.put(0);
            book.close(0);
            Check.due("restore()", book.restore(), 100);
            Facts.theSame("restored", Facts.ofState(book), facts);
        }
    }

    private static void restoreIsAnAct() {
        Check.says("This is an act");
        TenancyDeposits book = new TenancyDeposits();
        book.keep();
        book.pass(3);
        book.restore();
        Check.due("states", book.count(12), 2);
        Check.due("undo()", book.undo(), 1);
        Check.due("the day ahead of it", book.count(0), 3);
        for (int n = 0; n < 6; n++) {
            book.restore();
        }
        Check.due("four at most", book.count(12), 4);
    }

    private static void restoreReturnsTheDayThen() {
        Check.says("Returns the day then; NONE if there is no snapshot");
        TenancyDeposits book = new TenancyDeposits();
        Check.due("no snapshot", book.restore(), NONE);
        book.keep();
        book.pass(1000);
        Check.due("the first day", book.restore(), 0);
        TenancyDeposits last = Books.onLastDay();
        last.keep();
        last.undo();
        Check.due("the last day", last.restore(), 99999);
        Check.due("undo()", last.undo(), 3);
        Check.due("the day ahead of it", last.count(0), 99000);
    }

    private static void roomComesBack() {
        Check.says("undo() removes and restores the latest one");
        TenancyDeposits book = new TenancyDeposits();
        for (int n = 0; n < 6; n++) {
            book.begin(1000 + n);
        }
        book.undo();
        Check.due("room for a sixth", book.begin(2000), 5);
        Check.due("its deposit", book.tenancy(5, 0), 2000);
        for (int n = 0; n < 24; n++) {
            book.addItem(0, 100 + n, 30, 0, 0);
        }
        book.undo();
        Check.due("room for a 24th", book.addItem(0, 900, 30, 0, 0), 23);
        Check.due("its value", book.item(23, 1), 900);
        TenancyDeposits last = Books.onLastDay();
        last.undo();
        Check.due("room for a day", last.pass(1), 99001);
    }
}
