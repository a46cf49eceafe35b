import java.util.function.IntFunction;
import java.util.function.ToIntFunction;

/**
 * "A call that returns an error or NONE changes nothing": each refusal, asked of one of two books that were made alike.
 * Behind it both must tell the same, also of each state in the history, of the snapshot and of the text.
 */
public final class RefusalsTest {
    private static final int UNKNOWN = TenancyDeposits.UNKNOWN;
    private static final int BAD_VALUE = TenancyDeposits.BAD_VALUE;
    private static final int FULL = TenancyDeposits.FULL;
    private static final int NOT_POSSIBLE = TenancyDeposits.NOT_POSSIBLE;
    private static final int NONE = TenancyDeposits.NONE;

    public static void main(String[] args) {
        Check.says("A call that returns an error or NONE changes nothing");
        for (int state = 0; state <= 3; state++) {
            unknown(state);
            badValues(state);
            soAlready(state);
        }
        notPossible();
        full();
        texts();
        emptyHistoryAndSnapshot();
        whatTellsChangesNothing();
        Check.end("RefusalsTest");
    }

    /** With four states in the history, a snapshot of another day, and a text. */
    private static TenancyDeposits rich(int state) {
        TenancyDeposits book = Books.inState(state);
        book.begin(3000);
        book.addItem(1, 700, 70, 7, 77);
        book.keep();
        book.pass(3);
        book.setFee(900);
        book.setRate(0x3DCCCCCD);
        Check.type(book, "0d7,x");
        return book;
    }

    private static void refused(String name, int state, ToIntFunction<TenancyDeposits> call, int want) {
        refused(name, RefusalsTest::rich, state, call, want);
    }

    private static void refused(String name, IntFunction<TenancyDeposits> maker, int state,
            ToIntFunction<TenancyDeposits> call, int want) {
        String full = name + " in state " + state;
        TenancyDeposits asked = maker.apply(state);
        TenancyDeposits plain = maker.apply(state);
        Check.due(full, call.applyAsInt(asked), want);
        alike(full, asked, plain);
    }

    private static void alike(String name, TenancyDeposits asked, TenancyDeposits plain) {
        Facts.theSame("behind " + name, Facts.of(asked), Facts.of(plain));
        Check.due("text behind " + name, asked.readAnswers(), plain.readAnswers());
        for (int n = 0; n < 5; n++) {
            Check.due("undo behind " + name, asked.undo(), plain.undo());
            Facts.theSame("undone behind " + name, Facts.of(asked), Facts.of(plain));
        }
        Check.due("restore behind " + name, asked.restore(), plain.restore());
        Facts.theSame("restored behind " + name, Facts.of(asked), Facts.of(plain));
    }

    private static void unknown(int state) {
        refused("addItem(2, ..)", state, book -> book.addItem(2, 100, 30, 0, 0), UNKNOWN);
        refused("end(2)", state, book -> book.end(2), UNKNOWN);
        refused("inspect(3, 1)", state, book -> book.inspect(3, 1), UNKNOWN);
        refused("claim(3, 1)", state, book -> book.claim(3, 1), UNKNOWN);
        refused("claimRent(2, 1)", state, book -> book.claimRent(2, 1), UNKNOWN);
        refused("put(2)", state, book -> book.put(2), UNKNOWN);
        refused("answer(3, true)", state, book -> book.answer(3, true), UNKNOWN);
        refused("setEvidence(3, 1, 1)", state, book -> book.setEvidence(3, 1, 1), UNKNOWN);
        refused("close(2)", state, book -> book.close(2), UNKNOWN);
        refused("tenancy(2, 0)", state, book -> book.tenancy(2, 0), UNKNOWN);
        refused("item(3, 0)", state, book -> book.item(3, 0), UNKNOWN);
        refused("reason(3)", state, book -> book.reason(3), UNKNOWN);
        refused("outcome(2, 0)", state, book -> book.outcome(2, 0), UNKNOWN);
        refused("mostIn(3, 0)", state, book -> book.mostIn(3, 0), UNKNOWN);
    }

    private static void badValues(int state) {
        refused("setRate(-0.0f)", state, book -> book.setRate(Integer.MIN_VALUE), BAD_VALUE);
        refused("setRate(NaN)", state, book -> book.setRate(0x7FC00000), BAD_VALUE);
        refused("setFee(50001)", state, book -> book.setFee(50001), BAD_VALUE);
        refused("pass(1001)", state, book -> book.pass(1001), BAD_VALUE);
        refused("begin(999)", state, book -> book.begin(999), BAD_VALUE);
        refused("addItem(1, 99, ..)", state, book -> book.addItem(1, 99, 30, 0, 0), BAD_VALUE);
        refused("inspect(0, 101)", state, book -> book.inspect(0, 101), BAD_VALUE);
        refused("claim(0, 10001)", state, book -> book.claim(0, 10001), BAD_VALUE);
        refused("claimRent(0, -1)", state, book -> book.claimRent(0, -1), BAD_VALUE);
        refused("setEvidence(0, 11, 1)", state, book -> book.setEvidence(0, 11, 1), BAD_VALUE);
        refused("setEvidence(0, 1, 11)", state, book -> book.setEvidence(0, 1, 11), BAD_VALUE);
        refused("tenancy(0, 10)", state, book -> book.tenancy(0, 10), BAD_VALUE);
        refused("item(0, 11)", state, book -> book.item(0, 11), BAD_VALUE);
        refused("outcome(0, 6)", state, book -> book.outcome(0, 6), BAD_VALUE);
        refused("mostIn(0, 10000)", state, book -> book.mostIn(0, 10000), BAD_VALUE);
        refused("count(14)", state, book -> book.count(14), BAD_VALUE);
    }

    private static void soAlready(int state) {
        refused("setRate so already", state, book -> book.setRate(0x3DCCCCCD), NONE);
        refused("setFee so already", state, book -> book.setFee(900), NONE);
        if (state == 0) {
            refused("item(0, 4)", state, book -> book.item(0, 4), NONE);
        }
        if (state == 1) {
            refused("inspect so already", state, book -> book.inspect(0, 0), NONE);
            refused("inspect of the fair one", state, book -> book.inspect(1, 50), NONE);
            refused("claim so already", state, book -> book.claim(0, 4000), NONE);
            refused("no claim already", state, book -> book.claim(1, 0), NONE);
            refused("claimRent so already", state, book -> book.claimRent(0, 0), NONE);
        }
        if (state == 2) {
            refused("accepted already", n -> answered(true), state, book -> book.answer(0, true), NONE);
            refused("disputed already", n -> answered(false), state, book -> book.answer(0, false), NONE);
        }
    }

    private static TenancyDeposits answered(boolean accepted) {
        TenancyDeposits book = rich(2);
        book.answer(0, accepted);
        return book;
    }

    private static void notPossible() {
        for (int state = 0; state <= 3; state++) {
            refused("addItem", state, book -> book.addItem(0, 100, 30, 0, 0), NOT_POSSIBLE);
            if (state != 0) {
                refused("end", state, book -> book.end(0), NOT_POSSIBLE);
                refused("mostIn", state, book -> book.mostIn(0, 5), NOT_POSSIBLE);
            } else {
                refused("outcome", state, book -> book.outcome(0, 0), NOT_POSSIBLE);
            }
            if (state != 1) {
                refused("inspect", state, book -> book.inspect(0, 10), NOT_POSSIBLE);
                refused("claim", state, book -> book.claim(0, 10), NOT_POSSIBLE);
                refused("claimRent", state, book -> book.claimRent(0, 10), NOT_POSSIBLE);
                refused("put", state, book -> book.put(0), NOT_POSSIBLE);
            }
            if (state != 2) {
                refused("answer", state, book -> book.answer(0, false), NOT_POSSIBLE);
                refused("close", state, book -> book.close(0), NOT_POSSIBLE);
            }
            if (state == 0 || state == 3) {
                refused("setEvidence", state, book -> book.setEvidence(0, 4, 5), NOT_POSSIBLE);
            }
            refused("answer without a claim", state, book -> book.answer(1, false), NOT_POSSIBLE);
        }
    }

    private static TenancyDeposits withSixTenancies(int state) {
        TenancyDeposits book = rich(state);
        for (int n = 2; n < 6; n++) {
            book.begin(1000 * n);
        }
        return book;
    }

    private static TenancyDeposits withTwentyFourItems(int state) {
        TenancyDeposits book = rich(state);
        book.begin(7000);
        for (int n = 3; n < 24; n++) {
            book.addItem(2, 100 * n, 30 + n, n, n);
        }
        return book;
    }

    private static TenancyDeposits onLastDay(int state) {
        TenancyDeposits book = rich(state);
        Books.pass(book, 99999 - book.count(0));
        return book;
    }

    private static TenancyDeposits withFullText(int state) {
        TenancyDeposits book = rich(state);
        Check.type(book, "0d,".repeat(20));
        return book;
    }

    private static void full() {
        for (int state = 0; state <= 3; state++) {
            refused("begin, full", RefusalsTest::withSixTenancies, state, book -> book.begin(1000), FULL);
            refused("addItem, full", RefusalsTest::withTwentyFourItems, state,
                book -> book.addItem(2, 100, 30, 0, 0), FULL);
            refused("pass, full", RefusalsTest::onLastDay, state, book -> book.pass(1), FULL);
            refused("type, full", RefusalsTest::withFullText, state, book -> book.type('x'), FULL);
        }
    }

    private static TenancyDeposits withText(int state, String text) {
        TenancyDeposits book = rich(state);
        book.clearText();
        Check.type(book, text);
        return book;
    }

    private static void texts() {
        for (int state = 0; state <= 3; state++) {
            refused("a fault", state, TenancyDeposits::readAnswers, -104);
            refused("a fault behind an answer", n -> withText(n, "0d9,0a,"), state,
                TenancyDeposits::readAnswers, -107);
            refused("no text", n -> withText(n, ""), state, TenancyDeposits::readAnswers, -100);
            if (state != 2) {
                refused("not put", n -> withText(n, "0d9"), state, TenancyDeposits::readAnswers, NOT_POSSIBLE);
            }
        }
        refused("unknown behind an answer", n -> withText(n, "0d9,3a"), 2, TenancyDeposits::readAnswers, UNKNOWN);
        refused("no claim behind an answer", n -> withText(n, "0d9,1a"), 2, TenancyDeposits::readAnswers, NOT_POSSIBLE);
        refused("not put behind an answer", n -> withText(n, "0d9,2a"), 2, TenancyDeposits::readAnswers, NOT_POSSIBLE);
    }

    private static TenancyDeposits withEmptyHistory(int state) {
        TenancyDeposits book = rich(state);
        for (int n = 0; n < 4; n++) {
            book.undo();
        }
        return book;
    }

    private static void emptyHistoryAndSnapshot() {
        for (int state = 0; state <= 3; state++) {
            refused("undo of nothing", RefusalsTest::withEmptyHistory, state, TenancyDeposits::undo, NONE);
            refused("restore of nothing", Books::inState, state, TenancyDeposits::restore, NONE);
        }
    }

    private static void whatTellsChangesNothing() {
        Check.says("what is told: no call there is described as an act");
        for (int state = 0; state <= 3; state++) {
            TenancyDeposits asked = rich(state);
            TenancyDeposits plain = rich(state);
            Facts.of(asked);
            Facts.of(asked);
            alike("telling in state " + state, asked, plain);
        }
    }
}
