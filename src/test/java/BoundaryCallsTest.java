import java.util.function.IntUnaryOperator;

/** The boundaries that promises 1 to 15 and 21 to 29 name, call by call: ranges, refusals and their order, NONE, full. */
public final class BoundaryCallsTest {
    private static final int UNKNOWN = TenancyDeposits.UNKNOWN;
    private static final int BAD_VALUE = TenancyDeposits.BAD_VALUE;
    private static final int FULL = TenancyDeposits.FULL;
    private static final int NOT_POSSIBLE = TenancyDeposits.NOT_POSSIBLE;
    private static final int NONE = TenancyDeposits.NONE;

    public static void main(String[] args) {
        constants();
        bookWithoutTenancies();
        setRateRange();
        setRateSoAlready();
        setFeeRange();
        setFeeSoAlready();
        passRange();
        passFull();
        beginRange();
        beginFull();
        addItemToday();
        addItemRanges();
        addItemOrder();
        endDays();
        conditionsUntilTheyAreTold();
        inspectRange();
        inspectOrder();
        claimRange();
        claimTakenBack();
        claimOrder();
        claimRentRange();
        claimRentOrder();
        putItems();
        answerAnew();
        answerOrder();
        setEvidenceRanges();
        setEvidenceAward();
        setEvidenceOrder();
        closeReturns();
        whichStatesAllowWhat();
        unknownTenancies();
        unknownItems();
        tellsOfTenancies();
        tellsOfItems();
        noneWhileItRuns();
        awardWithoutAClaim();
        floatsOfNothing();
        reasonsOfAnAward();
        outcomeRange();
        outcomeOrder();
        outcomeOfAClosedOne();
        mostInRange();
        mostInOrder();
        mostInTellsTheDue();
        countRange();
        countsSoFar();
        Check.end("BoundaryCallsTest");
    }

    /** Low and high are taken with the answers told; what is beyond them is not. */
    private static void range(String name, IntUnaryOperator call, int low, int atLow, int high, int atHigh) {
        Check.due(name + " of " + low, call.applyAsInt(low), atLow);
        Check.due(name + " of " + high, call.applyAsInt(high), atHigh);
        int[] beyond = {low - 1, high + 1, Integer.MIN_VALUE, Integer.MAX_VALUE, -1000000007};
        for (int number : beyond) {
            Check.due(name + " of " + number, call.applyAsInt(number), BAD_VALUE);
        }
    }

    private static void constants() {
        Check.says("Errors are reported by the constants below");
        Check.due("UNKNOWN", UNKNOWN, -1);
        Check.due("BAD_VALUE", BAD_VALUE, -2);
        Check.due("FULL", FULL, -3);
        Check.due("NOT_POSSIBLE", NOT_POSSIBLE, -4);
        Check.due("NONE", NONE, -5);
    }

    private static void bookWithoutTenancies() {
        Check.says("Creates a book without tenancies");
        TenancyDeposits book = new TenancyDeposits();
        for (int what = 0; what <= 13; what++) {
            Check.due("count(" + what + ")", book.count(what), what == 7 ? 5000 : 0);
        }
        Check.due("tenancy(0, 0)", book.tenancy(0, 0), UNKNOWN);
        Check.due("item(0, 0)", book.item(0, 0), UNKNOWN);
        Check.due("end(0)", book.end(0), UNKNOWN);
    }

    private static void setRateRange() {
        Check.says("Returns 1; BAD_VALUE (no number, out of its range, or -0.0f)");
        int[] wrong = {0x80000000, 0x80000001, 0xBCA3D70A, 0xFF7FFFFF, 0xFF800000, 0xFF800001, 0xFFC00000, 0xFFFFFFFF,
            0x3E4CCCCE, 0x3F800000, 0x7F7FFFFF, 0x7F800000, 0x7F800001, 0x7FC00000, 0x7FFFFFFF};
        for (int bits : wrong) {
            TenancyDeposits book = new TenancyDeposits();
            Check.due("setRate(" + bits + ")", book.setRate(bits), BAD_VALUE);
            Check.dueFloat("rate()", book.rate(), 0.02f);
            book.setRate(0);
            Check.due("setRate(" + bits + ") behind 0.0f", book.setRate(bits), BAD_VALUE);
        }
        int[] right = {0, 1, 0x3E4CCCCC, 0x3E4CCCCD};
        for (int bits : right) {
            Check.due("setRate(" + bits + ")", new TenancyDeposits().setRate(bits), 1);
        }
    }

    private static void setRateSoAlready() {
        Check.says("NONE if it is so already");
        TenancyDeposits book = new TenancyDeposits();
        Check.due("0.02f", book.setRate(0x3CA3D70A), NONE);
        Check.due("0.0f", book.setRate(0), 1);
        Check.due("0.0f again", book.setRate(0), NONE);
        Check.due("the next to it", book.setRate(1), 1);
        Check.due("the same again", book.setRate(1), NONE);
        Check.due("states", book.count(12), 2);
    }

    private static void setFeeRange() {
        Check.says("`cents`: 0 to 50000. Returns the previous one; BAD_VALUE");
        range("setFee", cents -> new TenancyDeposits().setFee(cents), 0, 5000, 50000, 5000);
        TenancyDeposits book = new TenancyDeposits();
        book.setFee(50000);
        Check.due("the most is the previous one", book.setFee(0), 50000);
        Check.due("the least is the previous one", book.setFee(1), 0);
    }

    private static void setFeeSoAlready() {
        Check.says("NONE if it is so already");
        TenancyDeposits book = new TenancyDeposits();
        Check.due("as at first", book.setFee(5000), NONE);
        book.setFee(0);
        Check.due("0", book.setFee(0), NONE);
        book.undo();
        Check.due("as at first, undone", book.setFee(5000), NONE);
    }

    private static void passRange() {
        Check.says("`days`: 1 to 1000. Returns the day then; BAD_VALUE");
        range("pass", days -> new TenancyDeposits().pass(days), 1, 1, 1000, 1000);
        Check.due("pass(0)", new TenancyDeposits().pass(0), BAD_VALUE);
    }

    private static void passFull() {
        Check.says("FULL if it would be more than 99999");
        TenancyDeposits book = new TenancyDeposits();
        Books.pass(book, 99500);
        Check.due("to 100000", book.pass(500), FULL);
        Check.due("far beyond", book.pass(1000), FULL);
        Check.due("the day", book.count(0), 99500);
        Check.due("to 99999", book.pass(499), 99999);
        Check.due("one more", book.pass(1), FULL);
        Check.due("1001 are told first", book.pass(1001), BAD_VALUE);
        Check.due("0 are told first", book.pass(0), BAD_VALUE);
        Check.due("the most is told first", book.pass(Integer.MAX_VALUE), BAD_VALUE);
        Check.due("the day", book.count(0), 99999);
    }

    private static void beginRange() {
        Check.says("`deposit`: 1000 to 1000000. Returns its number; BAD_VALUE");
        range("begin", deposit -> new TenancyDeposits().begin(deposit), 1000, 0, 1000000, 0);
    }

    private static void beginFull() {
        Check.says("FULL if there are 6");
        TenancyDeposits book = new TenancyDeposits();
        for (int n = 0; n < 6; n++) {
            Check.due("begin", book.begin(1000), n);
        }
        Check.due("a seventh", book.begin(1000), FULL);
        Check.due("a wrong one is told first", book.begin(999), BAD_VALUE);
        Check.due("a wrong one is told first", book.begin(1000001), BAD_VALUE);
    }

    private static void addItemToday() {
        Check.says("Adds an item to a tenancy that began today and is running");
        TenancyDeposits book = new TenancyDeposits();
        book.pass(9);
        book.begin(1000);
        Check.due("today", book.addItem(0, 100, 30, 0, 0), 0);
        book.begin(1000);
        Check.due("today, though another began later", book.addItem(0, 100, 30, 0, 0), 1);
        book.end(1);
        Check.due("today, but ended", book.addItem(1, 100, 30, 0, 0), NOT_POSSIBLE);
        book.put(1);
        Check.due("today, but put", book.addItem(1, 100, 30, 0, 0), NOT_POSSIBLE);
        book.close(1);
        Check.due("today, but closed", book.addItem(1, 100, 30, 0, 0), NOT_POSSIBLE);
        book.pass(1);
        Check.due("running, but of yesterday", book.addItem(0, 100, 30, 0, 0), NOT_POSSIBLE);
        book.undo();
        Check.due("today again", book.addItem(0, 100, 30, 0, 0), 2);
    }

    private static TenancyDeposits begun() {
        TenancyDeposits book = new TenancyDeposits();
        book.begin(1000);
        return book;
    }

    private static void addItemRanges() {
        Check.says("`value`: 100 to 500000, `life`: 30 to 9999, `age`: 0 to 9999, `condition`: 0 to 100");
        range("value", value -> begun().addItem(0, value, 30, 0, 0), 100, 0, 500000, 0);
        range("life", life -> begun().addItem(0, 100, life, 0, 0), 30, 0, 9999, 0);
        range("age", age -> begun().addItem(0, 100, 30, age, 0), 0, 0, 9999, 0);
        range("condition", condition -> begun().addItem(0, 100, 30, 0, condition), 0, 0, 100, 0);
        Check.due("a life of 0", begun().addItem(0, 100, 0, 0, 0), BAD_VALUE);
    }

    private static void addItemOrder() {
        Check.says("Returns its number; UNKNOWN; BAD_VALUE; NOT_POSSIBLE ..; FULL if there are 24");
        Check.due("unknown and wrong", begun().addItem(1, 99, 30, 0, 0), UNKNOWN);
        TenancyDeposits book = begun();
        for (int n = 0; n < 24; n++) {
            Check.due("addItem", book.addItem(0, 100, 30, 0, 0), n);
        }
        Check.due("full", book.addItem(0, 100, 30, 0, 0), FULL);
        Check.due("unknown and full", book.addItem(1, 100, 30, 0, 0), UNKNOWN);
        Check.due("wrong value and full", book.addItem(0, 99, 30, 0, 0), BAD_VALUE);
        Check.due("wrong condition and full", book.addItem(0, 100, 30, 0, 101), BAD_VALUE);
        book.begin(1000);
        book.end(1);
        Check.due("not running and full", book.addItem(1, 100, 30, 0, 0), NOT_POSSIBLE);
        Check.due("wrong and not running and full", book.addItem(1, 100, 29, 0, 0), BAD_VALUE);
        book.pass(1);
        Check.due("began earlier and full", book.addItem(0, 100, 30, 0, 0), NOT_POSSIBLE);
        Check.due("wrong and began earlier and full", book.addItem(0, 100, 30, 10000, 0), BAD_VALUE);
    }

    private static void endDays() {
        Check.says("Returns how many days it had");
        TenancyDeposits book = new TenancyDeposits();
        book.begin(1000);
        book.begin(1000);
        Check.due("none", book.end(0), 0);
        Books.pass(book, 99999);
        Check.due("the most", book.end(1), 99999);
        Check.due("on the last day", book.begin(1000), 2);
        Check.due("none", book.end(2), 0);
        Check.due("of the first one still", book.tenancy(0, 3), 0);
    }

    private static void conditionsUntilTheyAreTold() {
        Check.says("the conditions at the end are the fair ones until they are told");
        TenancyDeposits book = Books.inState(0);
        book.end(0);
        book.pass(10);
        for (int item = 0; item < 2; item++) {
            Check.due("condition at the end", book.item(item, 4), 50);
            Check.due("no damage", book.item(item, 5), 0);
            Check.due("no due", book.item(item, 6), 0);
        }
        book.inspect(0, 20);
        Check.due("told", book.item(0, 4), 20);
        Check.due("not told", book.item(1, 4), 50);
        TenancyDeposits worn = Books.endedAfter(31, 100, 30, 0);
        Check.due("the fair one is 0", worn.item(0, 4), 0);
    }

    private static void inspectRange() {
        Check.says("`condition`: 0 to 100. Returns its due then; NONE if it is so already");
        range("inspect", condition -> Books.endedAfter(0, 1000, 30, 15).inspect(0, condition), 0, 500, 100, NONE);
        TenancyDeposits book = Books.inState(1);
        Check.due("so already", book.inspect(0, 0), NONE);
        Check.due("the fair one, not told yet", book.inspect(1, 50), NONE);
        Check.due("better than fair", book.inspect(1, 51), 0);
        Check.due("so already", book.inspect(1, 51), NONE);
        Check.due("the fair one, told", book.inspect(1, 50), 0);
        Check.due("worse", book.inspect(1, 49), 50);
    }

    private static void inspectOrder() {
        Check.says("UNKNOWN; BAD_VALUE; NOT_POSSIBLE if its tenancy is not in the state 1; NONE");
        Check.due("unknown and wrong", Books.inState(1).inspect(2, 101), UNKNOWN);
        for (int state = 0; state <= 3; state++) {
            if (state != 1) {
                Check.due("wrong, in state " + state, Books.inState(state).inspect(0, 101), BAD_VALUE);
                Check.due("so already, in state " + state, Books.inState(state).inspect(0, 0), NOT_POSSIBLE);
            }
        }
    }

    private static void claimRange() {
        Check.says("`cents`: 0 to its value. Returns the previous claim; NONE if it is so already");
        range("claim", cents -> Books.inState(1).claim(0, cents), 0, 4000, 10000, 4000);
        range("claim", cents -> Books.inState(1).claim(1, cents), 0, NONE, 10000, 0);
        TenancyDeposits book = Books.inState(1);
        Check.due("so already", book.claim(0, 4000), NONE);
        Check.due("one cent more", book.claim(0, 4001), 4000);
        Check.due("so already", book.claim(0, 4001), NONE);
    }

    private static void claimTakenBack() {
        Check.says("0 takes the claim back");
        TenancyDeposits book = Books.inState(1);
        Check.due("claim(0, 0)", book.claim(0, 0), 4000);
        Check.due("no claim", book.item(0, 7), 0);
        Check.due("no award", book.item(0, 9), 0);
        Check.due("its reason", book.reason(0), 0);
        Check.due("none of it is paid", book.outcome(0, 1), 0);
        Check.due("taken back already", book.claim(0, 0), NONE);
        Check.due("no item is put", book.put(0), 0);
    }

    private static void claimOrder() {
        Check.says("UNKNOWN; BAD_VALUE; NOT_POSSIBLE if its tenancy is not in the state 1; NONE");
        Check.due("unknown and wrong", Books.inState(1).claim(2, -1), UNKNOWN);
        for (int state = 0; state <= 3; state++) {
            if (state != 1) {
                Check.due("wrong, in state " + state, Books.inState(state).claim(0, 10001), BAD_VALUE);
                Check.due("wrong, in state " + state, Books.inState(state).claim(0, -1), BAD_VALUE);
                Check.due("so already, in state " + state, Books.inState(state).claim(1, 0), NOT_POSSIBLE);
            }
        }
    }

    private static void claimRentRange() {
        Check.says("`cents`: 0 to 1000000. Returns the previous claim; NONE if it is so already");
        range("claimRent", cents -> Books.inState(1).claimRent(0, cents), 0, NONE, 1000000, 0);
        TenancyDeposits book = Books.inState(1);
        book.claimRent(0, 1000000);
        Check.due("so already", book.claimRent(0, 1000000), NONE);
        Check.due("taken back", book.claimRent(0, 0), 1000000);
        Check.due("so already", book.claimRent(0, 0), NONE);
    }

    private static void claimRentOrder() {
        Check.says("UNKNOWN; BAD_VALUE; NOT_POSSIBLE if it is not in the state 1; NONE");
        Check.due("unknown and wrong", Books.inState(1).claimRent(1, -1), UNKNOWN);
        for (int state = 0; state <= 3; state++) {
            if (state != 1) {
                Check.due("wrong, in state " + state, Books.inState(state).claimRent(0, 1000001), BAD_VALUE);
                Check.due("wrong, in state " + state, Books.inState(state).claimRent(0, -1), BAD_VALUE);
                Check.due("so already, in state " + state, Books.inState(state).claimRent(0, 0), NOT_POSSIBLE);
            }
        }
    }

    private static void putItems() {
        Check.says("Returns how many items have a claim");
        TenancyDeposits book = new TenancyDeposits();
        book.begin(1000);
        book.begin(1000);
        for (int n = 0; n < 24; n++) {
            book.addItem(n / 23, 100, 30, 0, 0);
        }
        book.end(0);
        book.end(1);
        for (int n = 0; n < 24; n++) {
            book.claim(n, 1);
        }
        Check.due("all but that of the other", book.put(0), 23);
        Check.due("that one", book.put(1), 1);
        TenancyDeposits none = begun();
        none.end(0);
        Check.due("no items", none.put(0), 0);
    }

    private static void answerAnew() {
        Check.says("Answers a claim, also anew. Returns the previous answer; NONE if it is so already");
        TenancyDeposits book = Books.inState(2);
        Check.due("accepted", book.answer(0, true), 0);
        Check.due("so already", book.answer(0, true), NONE);
        Check.due("disputed", book.answer(0, false), 1);
        Check.due("so already", book.answer(0, false), NONE);
        Check.due("accepted", book.answer(0, true), 2);
        TenancyDeposits other = Books.inState(2);
        Check.due("disputed at first", other.answer(0, false), 0);
    }

    private static void answerOrder() {
        Check.says("NOT_POSSIBLE if its tenancy is not in the state 2, or it has no claim; NONE");
        TenancyDeposits book = Books.inState(2);
        book.answer(0, false);
        book.close(0);
        Check.due("closed, and so already", book.answer(0, false), NOT_POSSIBLE);
        Check.due("closed, and otherwise", book.answer(0, true), NOT_POSSIBLE);
        Check.due("closed, no claim", book.answer(1, true), NOT_POSSIBLE);
        Check.due("ended, no claim", Books.inState(1).answer(1, true), NOT_POSSIBLE);
        Check.due("no claim", Books.inState(2).answer(1, true), NOT_POSSIBLE);
    }

    private static void setEvidenceRanges() {
        Check.says("`landlord`: 0 to 10, `tenant`: 0 to 10");
        range("landlord", points -> Books.inState(1).setEvidence(0, points, 0), 0, 4000, 10, 4000);
        range("tenant", points -> Books.inState(1).setEvidence(0, 0, points), 0, 4000, 10, 4000);
        range("tenant", points -> Books.disputed(50000, 4500).setEvidence(0, 10, points), 0, 4500, 10, 3500);
        range("landlord", points -> Books.disputed(50000, 4500).setEvidence(0, points, 10), 0, 2500, 10, 3500);
    }

    private static void setEvidenceAward() {
        Check.says("Returns its award then (NONE is no answer here: 0 if it has no claim)");
        TenancyDeposits book = Books.inState(2);
        Check.due("no claim", book.setEvidence(1, 10, 0), 0);
        Check.due("no claim, so already", book.setEvidence(1, 10, 0), 0);
        Check.due("not answered", book.setEvidence(0, 0, 10), 4000);
        Check.due("so already", book.setEvidence(0, 0, 10), 4000);
        book.answer(0, false);
        Check.due("disputed, so already", book.setEvidence(0, 0, 10), 2500);
        Check.due("none, as at first", Books.inState(1).setEvidence(1, 0, 0), 0);
    }

    private static void setEvidenceOrder() {
        Check.says("UNKNOWN; BAD_VALUE; NOT_POSSIBLE if its tenancy is not in the states 1 or 2");
        Check.due("unknown and wrong", Books.inState(1).setEvidence(2, 11, 0), UNKNOWN);
        Check.due("running and wrong", Books.inState(0).setEvidence(0, 0, 11), BAD_VALUE);
        Check.due("closed and wrong", Books.inState(3).setEvidence(0, -1, 0), BAD_VALUE);
        Check.due("running", Books.inState(0).setEvidence(0, 0, 0), NOT_POSSIBLE);
        Check.due("closed", Books.inState(3).setEvidence(0, 0, 0), NOT_POSSIBLE);
    }

    private static void closeReturns() {
        Check.says("Returns what the tenant gets");
        Check.due("with a claim", Books.inState(2).close(0), 46000);
        Check.due("with nothing left", Books.disputed(1000, 10000).close(0), 0);
        TenancyDeposits all = begun();
        all.end(0);
        all.put(0);
        Check.due("with no item", all.close(0), 1000);
        Check.due("so much came of it", all.outcome(0, 0), 1000);
    }

    private static void whichStatesAllowWhat() {
        Check.says("NOT_POSSIBLE = -4: This is not possible in the state of the tenancy");
        for (int state = 0; state <= 3; state++) {
            boolean running = state == 0;
            boolean ended = state == 1;
            boolean put = state == 2;
            allowed("addItem", state, Books.inState(state).addItem(0, 100, 30, 0, 0), false, 0);
            allowed("end", state, Books.inState(state).end(0), running, 100);
            allowed("inspect", state, Books.inState(state).inspect(0, 10), ended, 2000);
            allowed("claim", state, Books.inState(state).claim(0, 10), ended, 4000);
            allowed("claimRent", state, Books.inState(state).claimRent(0, 10), ended, 0);
            allowed("put", state, Books.inState(state).put(0), ended, 1);
            allowed("answer", state, Books.inState(state).answer(0, false), put, 0);
            allowed("readAnswers", state, Check.read(Books.inState(state), "0d"), put, 1);
            allowed("setEvidence", state, Books.inState(state).setEvidence(0, 1, 1), ended || put, 4000);
            allowed("close", state, Books.inState(state).close(0), put, 46000);
            allowed("outcome", state, Books.inState(state).outcome(0, 0), !running, 46000);
            allowed("mostIn", state, Books.inState(state).mostIn(0, 0), running, 2500);
        }
    }

    private static void allowed(String name, int state, int got, boolean possible, int want) {
        Check.due(name + " in state " + state, got, possible ? want : NOT_POSSIBLE);
    }

    private static void unknownTenancies() {
        Check.says("UNKNOWN = -1: There is no such tenancy or item");
        int[] numbers = {-1, 1, 5, 6, Integer.MIN_VALUE, Integer.MAX_VALUE, 1 << 16};
        for (int state = 0; state <= 3; state++) {
            for (int n : numbers) {
                TenancyDeposits book = Books.inState(state);
                Check.due("addItem of " + n, book.addItem(n, 100, 30, 0, 0), UNKNOWN);
                Check.due("end of " + n, book.end(n), UNKNOWN);
                Check.due("claimRent of " + n, book.claimRent(n, 1), UNKNOWN);
                Check.due("put of " + n, book.put(n), UNKNOWN);
                Check.due("close of " + n, book.close(n), UNKNOWN);
                Check.due("tenancy of " + n, book.tenancy(n, 0), UNKNOWN);
                Check.due("outcome of " + n, book.outcome(n, 0), UNKNOWN);
            }
        }
    }

    private static void unknownItems() {
        Check.says("UNKNOWN = -1: There is no such tenancy or item");
        int[] numbers = {-1, 2, 23, 24, Integer.MIN_VALUE, Integer.MAX_VALUE, 1 << 16};
        for (int state = 0; state <= 3; state++) {
            for (int n : numbers) {
                TenancyDeposits book = Books.inState(state);
                Check.due("inspect of " + n, book.inspect(n, 0), UNKNOWN);
                Check.due("claim of " + n, book.claim(n, 0), UNKNOWN);
                Check.due("answer of " + n, book.answer(n, true), UNKNOWN);
                Check.due("setEvidence of " + n, book.setEvidence(n, 1, 1), UNKNOWN);
                Check.due("item of " + n, book.item(n, 0), UNKNOWN);
                Check.due("reason of " + n, book.reason(n), UNKNOWN);
                Check.due("mostIn of " + n, book.mostIn(n, 0), UNKNOWN);
            }
        }
    }

    private static void tellsOfTenancies() {
        Check.says("`what`: 0 for its deposit, .., 9 for disputed items. Returns the number; UNKNOWN; BAD_VALUE");
        TenancyDeposits book = Books.disputed(50000, 4000, 1000);
        range("tenancy(0, ..)", what -> book.tenancy(0, what), 0, 50000, 9, 2);
        Check.due("unknown and wrong", book.tenancy(1, 10), UNKNOWN);
        Check.due("unknown and wrong", book.tenancy(-1, -1), UNKNOWN);
        Check.due("two items", book.tenancy(0, 5), 2);
        Check.due("no items", begun().tenancy(0, 5), 0);
        Check.due("no claims", begun().tenancy(0, 7), 0);
        Check.due("no dues", begun().tenancy(0, 8), 0);
        Check.due("no disputed items", begun().tenancy(0, 9), 0);
        Check.due("no dues while it runs", Books.inState(0).tenancy(0, 8), 0);
        Check.due("one due is not 0", Books.inState(1).tenancy(0, 8), 2500);
    }

    private static void tellsOfItems() {
        Check.says("`what`: 0 for its tenancy, .., 10 for its age then. Returns the number; UNKNOWN; BAD_VALUE");
        for (int state = 0; state <= 3; state++) {
            TenancyDeposits book = Books.inState(state);
            range("item(0, ..)", what -> book.item(0, what), 0, 0, 10, 100);
            Check.due("unknown and wrong", book.item(2, 11), UNKNOWN);
            Check.due("unknown and wrong", book.item(-1, -1), UNKNOWN);
        }
    }

    private static void noneWhileItRuns() {
        Check.says("4 for the condition at the end (NONE while its tenancy runs), 5 .. (NONE likewise), 6 .. (NONE likewise)");
        for (int what = 4; what <= 6; what++) {
            Check.due("running: item(0, " + what + ")", Books.inState(0).item(0, what), NONE);
            Check.due("unknown: item(2, " + what + ")", Books.inState(0).item(2, what), UNKNOWN);
            int[] ended = {0, 50, 2500};
            for (int state = 1; state <= 3; state++) {
                Check.due("state " + state, Books.inState(state).item(0, what), ended[what - 4]);
            }
        }
        TenancyDeposits undone = Books.inState(0);
        undone.end(0);
        undone.undo();
        Check.due("running again", undone.item(0, 4), NONE);
    }

    private static void awardWithoutAClaim() {
        Check.says("9 for its award (0 without a claim)");
        for (int state = 0; state <= 3; state++) {
            Check.due("without a claim in state " + state, Books.inState(state).item(1, 9), 0);
            Check.due("with one in state " + state, Books.inState(state).item(0, 9), state == 0 ? 0 : 4000);
        }
        TenancyDeposits damaged = Books.inState(1);
        damaged.inspect(1, 0);
        Check.due("without a claim, though 2500 are due", damaged.item(1, 9), 0);
    }

    private static void floatsOfNothing() {
        Check.says("Methods that return a float tell a NaN (0.0f / 0.0f) if an argument is wrong");
        int[] numbers = {-1, 2, 24, Integer.MIN_VALUE, Integer.MAX_VALUE};
        for (int n : numbers) {
            Check.dueFloat("rest(" + n + ")", Books.inState(1).rest(n), 0.0f / 0.0f);
            Check.dueFloat("weight(" + n + ")", Books.inState(1).weight(n), 0.0f / 0.0f);
        }
        Check.dueFloat("rest(0) of no item", begun().rest(0), 0.0f / 0.0f);
        Check.dueFloat("weight(0) of no item", begun().weight(0), 0.0f / 0.0f);
        Check.dueFloat("rest(1)", Books.inState(1).rest(1), 0.5f);
        Check.dueFloat("weight(1)", Books.inState(1).weight(1), 0.5f);
    }

    private static void reasonsOfAnAward() {
        Check.says("Returns 0 it has no claim, 1 it is accepted (or would be, as it is not answered), 2 .., 3 ..");
        int[] states = {0, 1, 1, 1};
        for (int state = 0; state <= 3; state++) {
            Check.due("in state " + state, Books.inState(state).reason(0), states[state]);
            Check.due("no claim in state " + state, Books.inState(state).reason(1), 0);
        }
        int[] claims = {1, 2499, 2500, 2501, 10000};
        int[] reasons = {2, 2, 2, 3, 3};
        for (int n = 0; n < claims.length; n++) {
            TenancyDeposits book = Books.disputed(50000, claims[n]);
            Check.due("disputed " + claims[n], book.reason(0), reasons[n]);
            book.answer(0, true);
            Check.due("accepted " + claims[n], book.reason(0), 1);
        }
    }

    private static void outcomeRange() {
        Check.says("`what`: 0 for what the tenant gets, .., 5 for the pot. Returns the number; UNKNOWN; BAD_VALUE");
        for (int state = 1; state <= 3; state++) {
            TenancyDeposits book = Books.inState(state);
            range("outcome(0, ..)", what -> book.outcome(0, what), 0, 46000, 5, 50000);
        }
    }

    private static void outcomeOrder() {
        Check.says("UNKNOWN; BAD_VALUE; NOT_POSSIBLE if it is running");
        Check.due("unknown and wrong", Books.inState(0).outcome(1, 6), UNKNOWN);
        Check.due("running and wrong", Books.inState(0).outcome(0, 6), BAD_VALUE);
        Check.due("running and wrong", Books.inState(0).outcome(0, -1), BAD_VALUE);
        for (int what = 0; what <= 5; what++) {
            Check.due("running: outcome(0, " + what + ")", Books.inState(0).outcome(0, what), NOT_POSSIBLE);
        }
    }

    private static void outcomeOfAClosedOne() {
        Check.says("if it was closed now; of a closed one what it came to");
        TenancyDeposits book = Books.disputed(50000, 4500);
        book.close(0);
        int[] facts = new int[6];
        for (int what = 0; what < 6; what++) {
            facts[what] = book.outcome(0, what);
        }
        book.setFee(0);
        book.setRate(0x3E4CCCCD);
        book.pass(1000);
        for (int what = 0; what < 6; what++) {
            Check.due("outcome(0, " + what + ")", book.outcome(0, what), facts[what]);
        }
        TenancyDeposits open = Books.disputed(50000, 4500);
        open.setFee(0);
        Check.due("of an open one by the fee of now", open.outcome(0, 0), 46500);
        open.setRate(0x3E4CCCCD);
        open.pass(265);
        Check.due("and by the interest of now", open.outcome(0, 5), 60000);
    }

    private static TenancyDeposits dearest() {
        TenancyDeposits book = new TenancyDeposits();
        book.begin(1000);
        book.addItem(0, 500000, 9999, 0, 100);
        return book;
    }

    private static void mostInRange() {
        Check.says("`days`: 0 to 9999. Returns the due");
        range("mostIn(0, ..)", days -> dearest().mostIn(0, days), 0, 500000, 9999, 0);
        range("mostIn(0, ..)", days -> Books.inState(0).mostIn(0, days), 0, 2500, 9999, 0);
    }

    private static void mostInOrder() {
        Check.says("UNKNOWN; BAD_VALUE; NOT_POSSIBLE if its tenancy is not running");
        Check.due("unknown and wrong", Books.inState(0).mostIn(2, -1), UNKNOWN);
        for (int state = 1; state <= 3; state++) {
            Check.due("wrong, in state " + state, Books.inState(state).mostIn(0, 10000), BAD_VALUE);
            Check.due("wrong, in state " + state, Books.inState(state).mostIn(0, -1), BAD_VALUE);
            Check.due("in state " + state, Books.inState(state).mostIn(0, 9999), NOT_POSSIBLE);
        }
    }

    private static void mostInTellsTheDue() {
        Check.says("Tells the due of an item if its tenancy ended some days later, with the condition 0");
        TenancyDeposits book = dearest();
        int[] days = {0, 1, 5000, 9997, 9998, 9999};
        int[] dues = {500000, 499950, 124987, 1, 0, 0};
        for (int n = 0; n < days.length; n++) {
            Check.due("mostIn(0, " + days[n] + ")", book.mostIn(0, days[n]), dues[n]);
        }
        book.pass(1);
        Check.due("of tomorrow, today", book.mostIn(0, 0), 499950);
        Check.due("of the day that was told", book.mostIn(0, 4999), 124987);
        Check.due("no rest, though it is still running", book.mostIn(0, 9999), 0);
        book.end(0);
        Check.due("as it ended", book.inspect(0, 0), 499950);
        TenancyDeposits last = Books.onLastDay();
        last.begin(1000);
        last.addItem(0, 500000, 9999, 0, 100);
        Check.due("behind the last day", last.mostIn(0, 5000), 124987);
        Check.due("it is no act", last.count(0), 99999);
    }

    private static void countRange() {
        Check.says("`what`: 0 for the day, .., 13 for the length of the text. Returns the number; BAD_VALUE");
        TenancyDeposits book = new TenancyDeposits();
        book.pass(77);
        book.type('x');
        range("count", book::count, 0, 77, 13, 1);
        for (int state = 0; state <= 3; state++) {
            for (int what = 0; what <= 3; what++) {
                Check.due("in state " + what, Books.inState(state).count(2 + what), state == what ? 1 : 0);
            }
        }
    }

    private static void countsSoFar() {
        Check.says("8 for all that tenants got so far, 9 .. landlords .., 10 for all fees so far, 11 for all debts so far");
        for (int state = 0; state <= 2; state++) {
            for (int what = 8; what <= 11; what++) {
                Check.due("not closed, in state " + state, Books.inState(state).count(what), 0);
            }
        }
        TenancyDeposits book = Books.disputed(1000, 7500);
        book.setFee(600);
        book.close(0);
        int[] sums = {0, 600, 600, 4400};
        for (int what = 8; what <= 11; what++) {
            Check.due("count(" + what + ")", book.count(what), sums[what - 8]);
        }
        // Of this fee the pot has 1000 for the tenant's part of 2000; the landlord owes his 1000 in full.
        TenancyDeposits poor = Books.disputed(1000, 7500);
        poor.setFee(3000);
        poor.close(0);
        Check.due("fees as far as taken or owed", poor.count(10), 2000);
        poor.undo();
        Check.due("none if it is undone", poor.count(10), 0);
        ofAllClosedOnes();
    }

    private static void ofAllClosedOnes() {
        TenancyDeposits book = Books.withoutInterest();
        for (int n = 0; n < 6; n++) {
            book.begin(2000);
            book.addItem(n, 1000, 30, 0, 100);
            book.end(n);
            book.claim(n, 1000);
            book.claimRent(n, 500 + 500 * n);
            book.put(n);
            book.answer(n, false);
        }
        book.setFee(300);
        // Of each claim and of each fee the half is lost: 150 and 500 are taken ahead of the rent.
        int[] left = {850, 350, 0, 0, 0, 0};
        int[] sums = new int[4];
        for (int n = 0; n < 6; n++) {
            Check.due("close(" + n + ")", book.close(n), left[n]);
            sums[0] += left[n];
            sums[1] += 2000 - 150 - left[n];
            sums[2] += 300;
            sums[3] += Math.max(0, 500 * n - 850);
            for (int what = 8; what <= 11; what++) {
                Check.due("count(" + what + ") behind it", book.count(what), sums[what - 8]);
            }
        }
    }
}
