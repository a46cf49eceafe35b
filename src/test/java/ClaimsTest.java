/** Promises 9 to 12, 14, 15 and 25 to 27: claims, answers, evidence, awards, the closing and what it comes to. */
public final class ClaimsTest {
    private static final int UNKNOWN = TenancyDeposits.UNKNOWN;
    private static final int BAD_VALUE = TenancyDeposits.BAD_VALUE;
    private static final int NOT_POSSIBLE = TenancyDeposits.NOT_POSSIBLE;
    private static final int NONE = TenancyDeposits.NONE;

    public static void main(String[] args) {
        claim();
        claimRent();
        put();
        answer();
        evidence();
        evidenceInStates();
        weightsAreFloats();
        awardsAreCut();
        reasons();
        close();
        outcomeOrderOfErrors();
        outcomeOfEndedTenancy();
        outcomeStandsAfterClosing();
        feeIsShared();
        feeIsCutFromLeftToRight();
        noDisputeNoFee();
        oneCentIsAClaim();
        potDoesNotSuffice();
        landlordsPartOfTheFeeIsNotTakenOff();
        sumsOfClosedTenancies();
        Check.end("ClaimsTest");
    }

    /** A tenancy without interest, with items of 10000 each that lasted half of their life and are due 2500. */
    private static TenancyDeposits ended(int deposit, int items) {
        TenancyDeposits book = new TenancyDeposits();
        book.setRate(0);
        book.begin(deposit);
        for (int n = 0; n < items; n++) {
            book.addItem(0, 10000, 200, 0, 100);
        }
        book.pass(100);
        book.end(0);
        for (int n = 0; n < items; n++) {
            book.inspect(n, 0);
        }
        return book;
    }

    private static TenancyDeposits disputed(int deposit, int... claims) {
        TenancyDeposits book = ended(deposit, claims.length);
        for (int n = 0; n < claims.length; n++) {
            book.claim(n, claims[n]);
        }
        book.put(0);
        for (int n = 0; n < claims.length; n++) {
            book.answer(n, false);
        }
        return book;
    }

    private static void outcomeIs(String name, TenancyDeposits book, int... facts) {
        for (int what = 0; what < facts.length; what++) {
            Check.due(name + ": outcome(0, " + what + ")", book.outcome(0, what), facts[what]);
        }
    }

    private static void claim() {
        TenancyDeposits book = new TenancyDeposits();
        Check.due("no item", book.claim(0, -1), UNKNOWN);
        book.begin(5000);
        book.addItem(0, 3000, 100, 0, 100);
        Check.due("claim(-1, 0)", book.claim(-1, 0), UNKNOWN);
        Check.due("claim(1, 0)", book.claim(1, 0), UNKNOWN);
        Check.due("running, wrong", book.claim(0, 3001), BAD_VALUE);
        Check.due("running, so already", book.claim(0, 0), NOT_POSSIBLE);
        book.end(0);
        int states = book.count(12);
        Check.due("claim(0, -1)", book.claim(0, -1), BAD_VALUE);
        Check.due("claim(0, 3001)", book.claim(0, 3001), BAD_VALUE);
        Check.due("claim(0, 0) so already", book.claim(0, 0), NONE);
        Check.due("states", book.count(12), states);
        Check.due("claim(0, 3000)", book.claim(0, 3000), 0);
        Check.due("claim(0, 3000) so already", book.claim(0, 3000), NONE);
        Check.due("claim(0, 1)", book.claim(0, 1), 3000);
        Check.due("its claim", book.item(0, 7), 1);
        Check.due("taken back", book.claim(0, 0), 1);
        Check.due("its claim", book.item(0, 7), 0);
        book.undo();
        Check.due("its claim after undo", book.item(0, 7), 1);
        book.put(0);
        Check.due("put", book.claim(0, 1), NOT_POSSIBLE);
        book.close(0);
        Check.due("closed", book.claim(0, 2), NOT_POSSIBLE);
        Check.due("closed, wrong", book.claim(0, 3001), BAD_VALUE);
    }

    private static void claimRent() {
        TenancyDeposits book = new TenancyDeposits();
        Check.due("no tenancy", book.claimRent(0, -1), UNKNOWN);
        book.begin(5000);
        Check.due("claimRent(1, 1)", book.claimRent(1, 1), UNKNOWN);
        Check.due("running", book.claimRent(0, 1), NOT_POSSIBLE);
        Check.due("running, so already", book.claimRent(0, 0), NOT_POSSIBLE);
        Check.due("running, wrong", book.claimRent(0, 1000001), BAD_VALUE);
        book.end(0);
        Check.due("so already", book.claimRent(0, 0), NONE);
        Check.due("claimRent(0, -1)", book.claimRent(0, -1), BAD_VALUE);
        Check.due("claimRent(0, 1000000)", book.claimRent(0, 1000000), 0);
        Check.due("claimRent(0, 1)", book.claimRent(0, 1), 1000000);
        Check.due("so already", book.claimRent(0, 1), NONE);
        Check.due("tenancy(0, 6)", book.tenancy(0, 6), 1);
        Check.due("claimRent(0, 0)", book.claimRent(0, 0), 1);
        book.put(0);
        Check.due("put", book.claimRent(0, 5), NOT_POSSIBLE);
    }

    private static void put() {
        TenancyDeposits book = ended(5000, 3);
        Check.due("put(-1)", book.put(-1), UNKNOWN);
        Check.due("put(1)", book.put(1), UNKNOWN);
        book.begin(5000);
        Check.due("running", book.put(1), NOT_POSSIBLE);
        book.claim(0, 1);
        book.claim(2, 10000);
        Check.due("two have a claim", book.put(0), 2);
        Check.due("state", book.tenancy(0, 2), 2);
        Check.due("put again", book.put(0), NOT_POSSIBLE);
        book.end(1);
        Check.due("none has a claim", book.put(1), 0);
        book.close(1);
        Check.due("closed", book.put(1), NOT_POSSIBLE);
    }

    private static void answer() {
        TenancyDeposits book = ended(5000, 2);
        book.claim(0, 4000);
        Check.due("answer(-1)", book.answer(-1, true), UNKNOWN);
        Check.due("answer(2)", book.answer(2, true), UNKNOWN);
        Check.due("not put yet", book.answer(0, true), NOT_POSSIBLE);
        book.put(0);
        Check.due("no claim", book.answer(1, true), NOT_POSSIBLE);
        Check.due("accepted", book.answer(0, true), 0);
        Check.due("accepted already", book.answer(0, true), NONE);
        Check.due("its answer", book.item(0, 8), 1);
        Check.due("disputed", book.answer(0, false), 1);
        Check.due("disputed already", book.answer(0, false), NONE);
        Check.due("its answer", book.item(0, 8), 2);
        Check.due("accepted anew", book.answer(0, true), 2);
        book.undo();
        Check.due("disputed after undo", book.item(0, 8), 2);
        book.close(0);
        Check.due("closed", book.answer(0, true), NOT_POSSIBLE);
        Check.due("disputed still", book.tenancy(0, 9), 1);
    }

    private static void evidence() {
        TenancyDeposits book = disputed(50000, 6500, 2000);
        Check.due("setEvidence(2, ..)", book.setEvidence(2, 11, 0), UNKNOWN);
        Check.due("setEvidence(-1, ..)", book.setEvidence(-1, 1, 0), UNKNOWN);
        int[][] wrong = {{11, 0}, {-1, 0}, {0, 11}, {0, -1}};
        int states = book.count(12);
        for (int[] w : wrong) {
            Check.due("points " + w[0] + ", " + w[1], book.setEvidence(0, w[0], w[1]), BAD_VALUE);
        }
        Check.due("states", book.count(12), states);
        Check.due("no evidence", book.item(0, 9), 4500);
        Check.due("10 and 0", book.setEvidence(0, 10, 0), 6500);
        Check.dueFloat("weight(0)", book.weight(0), 1.0f);
        Check.due("0 and 10", book.setEvidence(0, 0, 10), 2500);
        Check.dueFloat("weight(0)", book.weight(0), 0.0f);
        Check.due("1 and 3", book.setEvidence(0, 1, 3), 3500);
        Check.due("so already is no NONE", book.setEvidence(0, 1, 3), 3500);
        Check.dueFloat("weight(0)", book.weight(0), 0.25f);
        Check.due("not above its due", book.setEvidence(1, 0, 10), 2000);
        Check.due("0 and 0", book.setEvidence(0, 0, 0), 4500);
        Check.dueFloat("weight(0)", book.weight(0), 0.5f);
        book.undo();
        Check.dueFloat("weight(0) after undo", book.weight(0), 0.25f);
        Check.dueFloat("weight(2)", book.weight(2), Float.NaN);
        Check.dueFloat("weight(-1)", book.weight(-1), Float.NaN);
    }

    private static void evidenceInStates() {
        TenancyDeposits book = new TenancyDeposits();
        book.begin(5000);
        book.addItem(0, 1000, 30, 0, 100);
        Check.due("running", book.setEvidence(0, 1, 1), NOT_POSSIBLE);
        Check.due("running, wrong", book.setEvidence(0, 1, 11), BAD_VALUE);
        book.end(0);
        Check.due("no claim", book.setEvidence(0, 1, 2), 0);
        Check.due("again, no NONE", book.setEvidence(0, 1, 2), 0);
        Check.due("each is recorded", book.count(12), 4);
        book.undo();
        Check.dueFloat("weight(0)", book.weight(0), 1f / 3f);
        book.undo();
        Check.dueFloat("weight(0) before", book.weight(0), 0.5f);
        book.claim(0, 700);
        Check.due("not answered", book.setEvidence(0, 0, 10), 700);
        book.put(0);
        Check.due("put", book.setEvidence(0, 10, 10), 700);
        book.close(0);
        Check.due("closed", book.setEvidence(0, 1, 1), NOT_POSSIBLE);
    }

    private static void weightsAreFloats() {
        TenancyDeposits book = ended(5000, 1);
        for (int landlord = 0; landlord <= 10; landlord++) {
            for (int tenant = 0; tenant <= 10; tenant++) {
                book.setEvidence(0, landlord, tenant);
                float want = landlord + tenant == 0 ? 0.5f : (float) landlord / (float) (landlord + tenant);
                Check.dueFloat("weight of " + landlord + " to " + tenant, book.weight(0), want);
            }
        }
    }

    private static void awardsAreCut() {
        for (int claim = 2400; claim < 10000; claim += 13) {
            TenancyDeposits book = disputed(50000, claim);
            for (int landlord = 0; landlord <= 10; landlord++) {
                float weight = (float) landlord / (float) (landlord + 7);
                int want = claim <= 2500 ? claim : 2500 + (int) ((float) (claim - 2500) * weight);
                Check.due("award of " + claim + " by " + landlord, book.setEvidence(0, landlord, 7), want);
            }
        }
    }

    private static void reasons() {
        TenancyDeposits book = ended(50000, 4);
        Check.due("no claim", book.reason(0), 0);
        book.claim(0, 2500);
        book.claim(1, 2501);
        book.claim(2, 9000);
        Check.due("would be accepted", book.reason(2), 1);
        book.put(0);
        book.answer(0, false);
        book.answer(1, false);
        book.answer(2, true);
        Check.due("not greater than its due", book.reason(0), 2);
        Check.due("weighed", book.reason(1), 3);
        Check.due("accepted", book.reason(2), 1);
        Check.due("no claim", book.reason(3), 0);
        Check.due("reason(4)", book.reason(4), UNKNOWN);
        Check.due("reason(-1)", book.reason(-1), UNKNOWN);
        book.close(0);
        Check.due("weighed still", book.reason(1), 3);
    }

    private static void close() {
        TenancyDeposits book = ended(20000, 3);
        book.claim(0, 3000);
        book.claim(1, 4000);
        book.claimRent(0, 1000);
        Check.due("close(1)", book.close(1), UNKNOWN);
        Check.due("close(-1)", book.close(-1), UNKNOWN);
        Check.due("not put yet", book.close(0), NOT_POSSIBLE);
        book.put(0);
        Check.due("not answered is accepted", book.close(0), 12000);
        Check.due("state", book.tenancy(0, 2), 3);
        Check.due("close again", book.close(0), NOT_POSSIBLE);
        Check.due("its answer is none", book.item(0, 8), 0);
        Check.due("its reason", book.reason(0), 1);
        book.undo();
        Check.due("state after undo", book.tenancy(0, 2), 2);
        Check.due("no sums after undo", book.count(8), 0);
        book.begin(9000);
        Check.due("running", book.close(1), NOT_POSSIBLE);
    }

    private static void outcomeOrderOfErrors() {
        TenancyDeposits book = new TenancyDeposits();
        Check.due("no tenancy", book.outcome(0, 6), UNKNOWN);
        book.begin(5000);
        Check.due("outcome(-1, 0)", book.outcome(-1, 0), UNKNOWN);
        Check.due("running, wrong", book.outcome(0, 6), BAD_VALUE);
        Check.due("running, wrong", book.outcome(0, -1), BAD_VALUE);
        Check.due("running", book.outcome(0, 5), NOT_POSSIBLE);
        book.end(0);
        Check.due("ended", book.outcome(0, 5), 5000);
        Check.due("ended, wrong", book.outcome(0, 6), BAD_VALUE);
    }

    private static void outcomeOfEndedTenancy() {
        TenancyDeposits book = new TenancyDeposits();
        book.begin(100000);
        book.addItem(0, 10000, 9999, 0, 100);
        book.pass(365);
        book.end(0);
        book.claim(0, 4000);
        book.claimRent(0, 500);
        outcomeIs("ended", book, 97500, 4500, 0, 0, 0, 102000);
        book.pass(365);
        outcomeIs("a year on", book, 99500, 4500, 0, 0, 0, 104000);
        Check.due("it is no act", book.tenancy(0, 2), 1);
    }

    private static void outcomeStandsAfterClosing() {
        TenancyDeposits book = new TenancyDeposits();
        book.begin(100000);
        book.addItem(0, 10000, 200, 0, 100);
        book.pass(100);
        book.end(0);
        book.inspect(0, 0);
        book.claim(0, 6500);
        book.put(0);
        book.answer(0, false);
        // The interest is 100000 * 0.02f * 100 / 365.0f; half of what is above 2500 is awarded.
        int landlord = (int) (5000f * 2000f / 6500f);
        int[] facts = {100547 - (5000 - landlord) - 4500, 4500, 5000 - landlord, landlord, 0, 100547};
        outcomeIs("put", book, facts);
        Check.due("close(0)", book.close(0), facts[0]);
        book.pass(1000);
        book.setFee(0);
        book.setRate(0);
        outcomeIs("closed", book, facts);
        Check.due("interest", book.tenancy(0, 4), 547);
    }

    private static void feeIsShared() {
        outcomeIs("landlord lost all", lostByLandlord(), 45000, 0, 0, 5000, 0, 45000);
        TenancyDeposits all = disputed(50000, 2500, 1000);
        outcomeIs("tenant lost all", all, 50000 - 5000 - 3500, 3500, 5000, 0, 0, 50000);
        TenancyDeposits both = disputed(50000, 7500, 2500);
        both.answer(1, true);
        // Of 7500 disputed cents 2500 are lost: what is accepted does not count.
        outcomeIs("a third", both, 50000 - 3334 - 5000 - 2500, 7500, 3334, 1666, 0, 50000);
        both.setFee(0);
        outcomeIs("no fee", both, 50000 - 7500, 7500, 0, 0, 0, 50000);
    }

    /** An item that is due nothing, and all evidence is the tenant's. */
    private static TenancyDeposits lostByLandlord() {
        TenancyDeposits book = new TenancyDeposits();
        book.setRate(0);
        book.begin(45000);
        book.addItem(0, 10000, 200, 0, 100);
        book.end(0);
        book.claim(0, 10000);
        book.put(0);
        book.answer(0, false);
        book.setEvidence(0, 0, 10);
        return book;
    }

    private static void feeIsCutFromLeftToRight() {
        // The quotient first would cut these to one cent less; whole numbers would cut those otherwise.
        int[][] cases = {{2530, 9108, 108}, {2530, 42757, 507}, {2514, 11313, 63}, {2524, 49218, 468},
            {2847, 48399, 5898}, {2869, 46215, 5944}, {2875, 49519, 6458}, {2925, 44577, 6476}};
        for (int[] c : cases) {
            TenancyDeposits book = disputed(100000, c[0]);
            book.setEvidence(0, 0, 10);
            book.setFee(c[1]);
            Check.due("landlord's part of " + c[1], book.outcome(0, 3), c[2]);
            Check.due("tenant's part of " + c[1], book.outcome(0, 2), c[1] - c[2]);
        }
        for (int fee = 1; fee <= 50000; fee += 311) {
            TenancyDeposits book = disputed(100000, 7777, 9999, 2501);
            book.setFee(fee);
            int claims = 7777 + 9999 + 2501;
            int lost = claims - book.item(0, 9) - book.item(1, 9) - book.item(2, 9);
            int want = (int) ((float) fee * (float) lost / (float) claims);
            Check.due("landlord's part of " + fee, book.outcome(0, 3), want);
            Check.due("tenant's part of " + fee, book.outcome(0, 2), fee - want);
        }
    }

    private static void noDisputeNoFee() {
        TenancyDeposits book = disputed(50000, 7500);
        book.answer(0, true);
        outcomeIs("accepted anew", book, 42500, 7500, 0, 0, 0, 50000);
        book.setFee(50000);
        Check.due("close(0)", book.close(0), 42500);
        Check.due("no fees", book.count(10), 0);
    }

    private static void oneCentIsAClaim() {
        TenancyDeposits book = ended(50000, 1);
        book.claim(0, 1);
        Check.due("put(0)", book.put(0), 1);
        Check.due("answer", book.answer(0, false), 0);
        Check.due("reason", book.reason(0), 2);
        outcomeIs("one cent", book, 50000 - 5000 - 1, 1, 5000, 0, 0, 50000);
    }

    private static void potDoesNotSuffice() {
        TenancyDeposits feeOnly = disputed(1000, 2500);
        feeOnly.setFee(3000);
        outcomeIs("not for the fee", feeOnly, 0, 0, 1000, 0, 2000 + 2500, 1000);
        TenancyDeposits some = ended(5000, 3);
        some.claim(0, 2000);
        some.claim(1, 2500);
        some.claim(2, 1500);
        some.claimRent(0, 900);
        some.put(0);
        outcomeIs("not for the third item and the rent", some, 0, 5000, 0, 0, 1000 + 900, 5000);
        some.answer(0, false);
        some.setFee(5000);
        outcomeIs("just for the fee", some, 0, 0, 5000, 0, 6900, 5000);
        some.setFee(4999);
        outcomeIs("one cent more", some, 0, 1, 4999, 0, 6899, 5000);
        TenancyDeposits just = ended(5000, 1);
        just.claim(0, 4000);
        just.claimRent(0, 1000);
        outcomeIs("just enough", just, 0, 5000, 0, 0, 0, 5000);
    }

    private static void landlordsPartOfTheFeeIsNotTakenOff() {
        TenancyDeposits book = disputed(1000, 7500);
        book.setFee(300);
        // A third of the fee is the landlord's, though the pot has nothing left for it.
        outcomeIs("owed", book, 0, 800, 200, 100, 4200, 1000);
        Check.due("close(0)", book.close(0), 0);
        Check.due("landlords got", book.count(9), 800);
        Check.due("fees", book.count(10), 300);
        Check.due("debts", book.count(11), 4200);
    }

    private static void sumsOfClosedTenancies() {
        TenancyDeposits book = new TenancyDeposits();
        book.setRate(0);
        for (int n = 0; n < 3; n++) {
            book.begin(10000 + n);
            book.end(n);
            book.claimRent(n, n * 7000);
            book.put(n);
        }
        Check.due("nothing yet", book.count(8) + book.count(9) + book.count(10) + book.count(11), 0);
        Check.due("close(0)", book.close(0), 10000);
        Check.due("close(1)", book.close(1), 3001);
        Check.due("tenants got", book.count(8), 13001);
        Check.due("landlords got", book.count(9), 7000);
        Check.due("debts", book.count(11), 0);
        Check.due("close(2)", book.close(2), 0);
        Check.due("tenants got", book.count(8), 13001);
        Check.due("landlords got", book.count(9), 17002);
        Check.due("debts", book.count(11), 3998);
        book.undo();
        Check.due("debts after undo", book.count(11), 0);
        Check.due("landlords got after undo", book.count(9), 7000);
    }
}
