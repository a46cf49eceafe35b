/** The boundaries that 'Terms' names under CLAIMS, ANSWERS, AWARDS and CLOSING: one method for each sentence. */
public final class BoundaryClaimsTest {
    private static final int BAD_VALUE = TenancyDeposits.BAD_VALUE;
    private static final int NOT_POSSIBLE = TenancyDeposits.NOT_POSSIBLE;
    private static final int NONE = TenancyDeposits.NONE;

    public static void main(String[] args) {
        claimsWhenItHasEnded();
        claimsUpToTheValue();
        rangeOfRent();
        answersToItemsWithAClaim();
        notAnsweredIsAccepted();
        rentCannotBeDisputed();
        pointsOfEvidence();
        weightOfNoPoints();
        sumOfPointsInWholeNumbers();
        awardOfAnAcceptedItem();
        awardOfAClaimNotAboveTheDue();
        awardAboveTheDueIsWeighed();
        whatIsWeighedIsCut();
        rangeOfTheFee();
        feeAtFirst();
        feeIfAnyIsDisputed();
        landlordsPartOfTheFee();
        landlordsPartFromLeftToRight();
        sumsInWholeNumbers();
        tenantBearsTheRest();
        potIsDepositAndInterest();
        takenAsFarAsItSuffices();
        whatThePositionsLack();
        whatIsLeftGoesToTheTenant();
        landlordOwesHisPart();
        Check.end("BoundaryClaimsTest");
    }

    private static void outcomeIs(String name, TenancyDeposits book, int... facts) {
        for (int what = 0; what < facts.length; what++) {
            Check.due(name + ": outcome(0, " + what + ")", book.outcome(0, what), facts[what]);
        }
    }

    private static void claimsWhenItHasEnded() {
        Check.says("When a tenancy has ended, claims can be made for its items");
        int[] claims = {NOT_POSSIBLE, 0, NOT_POSSIBLE, NOT_POSSIBLE};
        for (int state = 0; state <= 3; state++) {
            Check.due("claim in state " + state, Books.inState(state).claim(1, 1), claims[state]);
            Check.due("claimRent in state " + state, Books.inState(state).claimRent(0, 1), claims[state]);
        }
        TenancyDeposits sameDay = new TenancyDeposits();
        sameDay.begin(1000);
        sameDay.addItem(0, 100, 30, 0, 0);
        sameDay.end(0);
        Check.due("on the day it began", sameDay.claim(0, 100), 0);
    }

    private static void claimsUpToTheValue() {
        Check.says("of 1 up to the value of the item");
        TenancyDeposits book = Books.inState(1);
        Check.due("claim(1, -1)", book.claim(1, -1), BAD_VALUE);
        Check.due("claim(1, 1)", book.claim(1, 1), 0);
        Check.due("claim(1, 10000)", book.claim(1, 10000), 1);
        Check.due("claim(1, 10001)", book.claim(1, 10001), BAD_VALUE);
        Check.due("the claim", book.item(1, 7), 10000);
        TenancyDeposits dearest = Books.endedAfter(0, 500000, 30, 0);
        Check.due("above the dearest", dearest.claim(0, 500001), BAD_VALUE);
        Check.due("of the dearest", dearest.claim(0, 500000), 0);
    }

    private static void rangeOfRent() {
        Check.says("and for its rent (0 to 1000000)");
        TenancyDeposits book = Books.inState(1);
        Check.due("claimRent(0, -1)", book.claimRent(0, -1), BAD_VALUE);
        Check.due("claimRent(0, 1000001)", book.claimRent(0, 1000001), BAD_VALUE);
        Check.due("claimRent(0, 0)", book.claimRent(0, 0), NONE);
        Check.due("claimRent(0, 1000000)", book.claimRent(0, 1000000), 0);
        Check.due("the rent", book.tenancy(0, 6), 1000000);
        Check.due("claimRent(0, 0)", book.claimRent(0, 0), 1000000);
        Check.due("the rent", book.tenancy(0, 6), 0);
    }

    private static void answersToItemsWithAClaim() {
        Check.says("items with a claim are accepted or disputed one by one");
        TenancyDeposits book = Books.inState(2);
        Check.due("one with a claim", book.answer(0, false), 0);
        Check.due("one without", book.answer(1, false), NOT_POSSIBLE);
        Check.due("the other way", book.answer(1, true), NOT_POSSIBLE);
        TenancyDeposits taken = Books.inState(1);
        taken.claim(0, 0);
        Check.due("none is put", taken.put(0), 0);
        Check.due("a claim that was taken back", taken.answer(0, false), NOT_POSSIBLE);
        TenancyDeposits cent = Books.inState(1);
        cent.claim(1, 1);
        Check.due("two are put", cent.put(0), 2);
        Check.due("a claim of one cent", cent.answer(1, false), 0);
        Check.due("the other has no answer", cent.item(0, 8), 0);
    }

    private static void notAnsweredIsAccepted() {
        Check.says("those not answered, as the tenancy is closed, count as accepted");
        TenancyDeposits book = Books.inState(2);
        Check.due("what it would come to", book.outcome(0, 1), 4000);
        Check.due("no fee", book.outcome(0, 2), 0);
        Check.due("close(0)", book.close(0), 46000);
        Check.due("award", book.item(0, 9), 4000);
        Check.due("reason", book.reason(0), 1);
        Check.due("disputed items", book.tenancy(0, 9), 0);
    }

    private static void rentCannotBeDisputed() {
        Check.says("Rent cannot be disputed");
        TenancyDeposits book = Books.inState(1);
        book.claimRent(0, 9000);
        book.put(0);
        book.answer(0, false);
        book.setEvidence(0, 0, 10);
        // 1500 of the 4000 are lost: the rent is no part of these.
        outcomeIs("rent in full", book, 50000 - 3125 - 2500 - 9000, 11500, 3125, 1875, 0, 50000);
        TenancyDeposits rentAlone = Books.inState(1);
        rentAlone.claim(0, 0);
        rentAlone.claimRent(0, 9000);
        rentAlone.put(0);
        outcomeIs("rent alone", rentAlone, 41000, 9000, 0, 0, 0, 50000);
    }

    private static void pointsOfEvidence() {
        Check.says("points of evidence of the landlord and of the tenant (0 to 10 each; 0 at first)");
        TenancyDeposits book = Books.inState(1);
        Check.dueFloat("none at first", book.weight(0), 0.5f);
        Check.due("-1, 0", book.setEvidence(0, -1, 0), BAD_VALUE);
        Check.due("0, -1", book.setEvidence(0, 0, -1), BAD_VALUE);
        Check.due("11, 0", book.setEvidence(0, 11, 0), BAD_VALUE);
        Check.due("0, 11", book.setEvidence(0, 0, 11), BAD_VALUE);
        Check.dueFloat("none still", book.weight(0), 0.5f);
        Check.due("10, 0", book.setEvidence(0, 10, 0), 4000);
        Check.dueFloat("all the landlord's", book.weight(0), 1.0f);
        Check.due("0, 10", book.setEvidence(0, 0, 10), 4000);
        Check.dueFloat("all the tenant's", book.weight(0), 0.0f);
        Check.due("10, 10", book.setEvidence(0, 10, 10), 4000);
        Check.dueFloat("half", book.weight(0), 0.5f);
        Check.dueFloat("the other item has none", book.weight(1), 0.5f);
    }

    private static void weightOfNoPoints() {
        Check.says("or 0.5f if there are none");
        TenancyDeposits book = Books.inState(1);
        Check.dueFloat("at first", book.weight(0), 0.5f);
        book.setEvidence(0, 0, 1);
        Check.dueFloat("one of the tenant's", book.weight(0), 0.0f);
        book.setEvidence(0, 1, 0);
        Check.dueFloat("one of the landlord's", book.weight(0), 1.0f);
        book.setEvidence(0, 0, 0);
        Check.dueFloat("none again", book.weight(0), 0.5f);
        Check.dueFloat("while it runs", Books.inState(0).weight(0), 0.5f);
    }

    private static void sumOfPointsInWholeNumbers() {
        Check.says("the landlord's points / (the landlord's points + the tenant's), the sum in whole numbers");
        TenancyDeposits book = Books.inState(1);
        book.setEvidence(0, 1, 2);
        Check.due("bits of 1 / 3", Float.floatToRawIntBits(book.weight(0)), 0x3EAAAAAB);
        book.setEvidence(0, 10, 9);
        Check.due("bits of 10 / 19", Float.floatToRawIntBits(book.weight(0)), 0x3F06BCA2);
        book.setEvidence(0, 1, 10);
        Check.due("bits of 1 / 11", Float.floatToRawIntBits(book.weight(0)), 0x3DBA2E8C);
    }

    private static void awardOfAnAcceptedItem() {
        Check.says("its claim, if it is accepted (or not answered)");
        TenancyDeposits book = Books.inState(2);
        book.setEvidence(0, 0, 10);
        Check.due("not answered, above its due", book.item(0, 9), 4000);
        book.answer(0, true);
        Check.due("accepted, above its due", book.item(0, 9), 4000);
        book.answer(0, false);
        Check.due("disputed", book.item(0, 9), 2500);
        Check.due("no claim", book.item(1, 9), 0);
    }

    private static void awardOfAClaimNotAboveTheDue() {
        Check.says("or its claim is not greater than its due");
        int[] claims = {1, 2499, 2500};
        for (int claim : claims) {
            TenancyDeposits book = Books.disputed(50000, claim);
            Check.due("no evidence for " + claim, book.item(0, 9), claim);
            Check.due("evidence against " + claim, book.setEvidence(0, 0, 10), claim);
            Check.due("reason of " + claim, book.reason(0), 2);
        }
        TenancyDeposits above = Books.disputed(50000, 2501);
        Check.due("one cent above", above.setEvidence(0, 0, 10), 2500);
        Check.due("its reason", above.reason(0), 3);
    }

    private static void awardAboveTheDueIsWeighed() {
        Check.says("otherwise due + ((claim - due) * weight, cut)");
        Check.due("half a cent is cut", Books.disputed(50000, 2501).item(0, 9), 2500);
        Check.due("half of two", Books.disputed(50000, 2502).item(0, 9), 2501);
        TenancyDeposits most = Books.disputed(50000, 10000);
        Check.due("all of the value", most.setEvidence(0, 1, 0), 10000);
        Check.due("nothing but the due", most.setEvidence(0, 0, 1), 2500);
        Check.due("10 of 11", most.setEvidence(0, 10, 1), 2500 + 6818);
        TenancyDeposits dearest = Books.endedAfter(0, 500000, 30, 30);
        dearest.claim(0, 500000);
        dearest.put(0);
        dearest.answer(0, false);
        Check.due("nothing is due", dearest.item(0, 9), 250000);
        Check.due("all of it", dearest.setEvidence(0, 10, 0), 500000);
        Check.due("nothing", dearest.setEvidence(0, 0, 10), 0);
    }

    private static void whatIsWeighedIsCut() {
        Check.says("with claim - due in whole numbers");
        // 408 * (7 / 12) is 237.99999 in floats: in whole numbers, or summed up ahead of the cut, it would be 238.
        Check.due("7 to 5", Books.disputed(50000, 2908).setEvidence(0, 7, 5), 2737);
    }

    private static void rangeOfTheFee() {
        Check.says("There is a fee of the arbiter (0 to 50000)");
        TenancyDeposits book = Books.disputed(100000, 2500);
        Check.due("-1", book.setFee(-1), BAD_VALUE);
        Check.due("50001", book.setFee(50001), BAD_VALUE);
        Check.due("0", book.setFee(0), 5000);
        Check.due("none is taken", book.outcome(0, 2), 0);
        Check.due("50000", book.setFee(50000), 0);
        Check.due("all of it is taken", book.outcome(0, 2), 50000);
    }

    private static void feeAtFirst() {
        Check.says("at first 5000");
        Check.due("count(7)", new TenancyDeposits().count(7), 5000);
        Check.due("setFee(5000)", new TenancyDeposits().setFee(5000), NONE);
        Check.due("what is taken", Books.disputed(50000, 2500).outcome(0, 2), 5000);
    }

    private static void feeIfAnyIsDisputed() {
        Check.says("which is taken if any item of the tenancy is disputed");
        TenancyDeposits book = Books.disputed(50000, 2500, 1, 2500);
        Check.due("all three", book.outcome(0, 2), 5000);
        book.answer(0, true);
        book.answer(2, true);
        Check.due("one of one cent", book.outcome(0, 2), 5000);
        book.answer(1, true);
        Check.due("none", book.outcome(0, 2), 0);
        Check.due("none for the landlord", book.outcome(0, 3), 0);
        Check.due("what the tenant gets", book.outcome(0, 0), 50000 - 5001);
        Check.due("of one not put", Books.inState(1).outcome(0, 2), 0);
        feeOfAnotherTenancy();
    }

    private static void feeOfAnotherTenancy() {
        TenancyDeposits book = Books.withoutInterest();
        for (int n = 0; n < 2; n++) {
            book.begin(50000);
            book.addItem(n, 1000, 30, 0, 100);
            book.end(n);
            book.claim(n, 1000);
            book.put(n);
        }
        book.answer(1, false);
        // Half of the claim is lost; what was asked of the one is not told of the other.
        for (int part = 2; part <= 3; part++) {
            Check.due("this one is disputed", book.outcome(1, part), 2500);
            Check.due("the other one is not", book.outcome(0, part), 0);
        }
    }

    private static void landlordsPartOfTheFee() {
        Check.says("the landlord bears fee * (all disputed claims less their awards) / all disputed claims");
        outcomeIs("lost nothing", Books.disputed(50000, 2500), 42500, 2500, 5000, 0, 0, 50000);
        TenancyDeposits all = Books.endedAfter(30, 10000, 30, 0);
        all.claim(0, 10000);
        all.put(0);
        all.answer(0, false);
        all.setEvidence(0, 0, 1);
        outcomeIs("lost all", all, 50000, 0, 0, 5000, 0, 50000);
        TenancyDeposits three = Books.disputed(50000, 5000, 2500, 10000);
        three.setEvidence(0, 0, 1);
        // What is accepted is no part of the sums: 2500 of 7500 are lost.
        three.answer(2, true);
        outcomeIs("lost a third", three, 50000 - 3334 - 15000, 15000, 3334, 1666, 0, 50000);
    }

    private static void landlordsPartFromLeftToRight() {
        Check.says("from left to right, cut (the sums in whole numbers)");
        // The quotient ahead of the product, or whole numbers, would cut one or the other of these elsewhere.
        int[][] cases = {{2530, 9108, 108}, {2530, 42757, 507}, {2514, 11313, 63}, {2524, 49218, 468},
            {2847, 48399, 5898}, {2869, 46215, 5944}, {2875, 49519, 6458}, {2925, 44577, 6476}};
        for (int[] c : cases) {
            TenancyDeposits book = Books.disputed(100000, c[0]);
            book.setEvidence(0, 0, 10);
            book.setFee(c[1]);
            Check.due("landlord's part of " + c[1], book.outcome(0, 3), c[2]);
        }
    }

    private static void sumsInWholeNumbers() {
        Check.says("(the sums in whole numbers)");
        TenancyDeposits book = Books.withoutInterest();
        book.begin(1000000);
        for (int n = 0; n < 24; n++) {
            book.addItem(0, 500000, 30, 9999, 100);
        }
        book.end(0);
        for (int n = 0; n < 24; n++) {
            book.claim(n, 500000);
        }
        book.claimRent(0, 1000000);
        Check.due("all are put", book.put(0), 24);
        for (int n = 0; n < 24; n++) {
            book.answer(n, false);
        }
        book.setFee(50000);
        Check.due("all claims", book.tenancy(0, 7), 12000000);
        Check.due("all disputed", book.tenancy(0, 9), 24);
        // Nothing is due, and half of each claim is weighed; 50000 * 6000000 as a float is a little less than that.
        outcomeIs("the most of all", book, 0, 974999, 25001, 24999, 6000000 + 1000000 - 974999, 1000000);
        Check.due("close(0)", book.close(0), 0);
        Check.due("debts", book.count(11), 6025001);
    }

    private static void tenantBearsTheRest() {
        Check.says("the tenant bears the rest");
        TenancyDeposits book = Books.disputed(100000, 7500);
        // The landlord's part is a third, cut.
        int[] fees = {0, 1, 2, 3, 4, 49999, 50000};
        for (int fee : fees) {
            book.setFee(fee);
            Check.due("landlord's part of " + fee, book.outcome(0, 3), fee / 3);
            Check.due("tenant's part of " + fee, book.outcome(0, 2), fee - fee / 3);
        }
    }

    private static void potIsDepositAndInterest() {
        Check.says("the pot is its deposit and its interest together");
        TenancyDeposits book = new TenancyDeposits();
        book.begin(1000);
        book.addItem(0, 2000, 9999, 0, 100);
        book.pass(365);
        book.end(0);
        Check.due("a year's interest", book.outcome(0, 5), 1020);
        book.claim(0, 1020);
        Check.due("the interest pays too", book.outcome(0, 1), 1020);
        Check.due("nothing is lacking", book.outcome(0, 4), 0);
        book.claim(0, 1021);
        Check.due("one cent is", book.outcome(0, 4), 1);
        book.claim(0, 0);
        book.put(0);
        Check.due("the tenant gets it all", book.close(0), 1020);
    }

    private static void takenAsFarAsItSuffices() {
        Check.says("From it are taken, one after the other, as far as it suffices");
        TenancyDeposits book = Books.inState(1);
        book.claim(1, 6000);
        book.claimRent(0, 40000);
        outcomeIs("just enough", book, 0, 50000, 0, 0, 0, 50000);
        book.claimRent(0, 39999);
        outcomeIs("one cent is left", book, 1, 49999, 0, 0, 0, 50000);
        book.claimRent(0, 40001);
        outcomeIs("one cent is lacking", book, 0, 50000, 0, 0, 1, 50000);
        outcomeIs("the fee comes first", feeOf(1000), 0, 0, 1000, 0, 2500, 1000);
        outcomeIs("then the award", feeOf(999), 0, 1, 999, 0, 2499, 1000);
        outcomeIs("part of the fee", feeOf(1001), 0, 0, 1000, 0, 2501, 1000);
        outcomeIs("no fee", feeOf(0), 0, 1000, 0, 0, 1500, 1000);
    }

    /** The least deposit, with a disputed claim of 2500 that is due, so that all of the fee is the tenant's. */
    private static TenancyDeposits feeOf(int fee) {
        TenancyDeposits book = Books.disputed(1000, 2500);
        book.setFee(fee);
        return book;
    }

    private static void whatThePositionsLack() {
        Check.says("What the positions lack together is the debt of the tenant");
        TenancyDeposits book = Books.disputed(1000, 2500, 2500);
        book.setFee(50000);
        outcomeIs("fee and both awards", book, 0, 0, 1000, 0, 49000 + 5000, 1000);
        Check.due("close(0)", book.close(0), 0);
        Check.due("all debts", book.count(11), 54000);
        TenancyDeposits rent = Books.withoutInterest();
        rent.begin(1000);
        rent.end(0);
        rent.claimRent(0, 1000000);
        outcomeIs("the most rent of the least deposit", rent, 0, 1000, 0, 0, 999000, 1000);
        rent.claimRent(0, 1000);
        outcomeIs("none", rent, 0, 1000, 0, 0, 0, 1000);
    }

    private static void whatIsLeftGoesToTheTenant() {
        Check.says("What is left goes to the tenant");
        TenancyDeposits book = Books.withoutInterest();
        book.begin(1000);
        book.end(0);
        outcomeIs("all", book, 1000, 0, 0, 0, 0, 1000);
        book.claimRent(0, 999);
        outcomeIs("one cent", book, 1, 999, 0, 0, 0, 1000);
        book.claimRent(0, 1000);
        outcomeIs("nothing", book, 0, 1000, 0, 0, 0, 1000);
        book.put(0);
        Check.due("close(0)", book.close(0), 0);
    }

    private static void landlordOwesHisPart() {
        Check.says("and owes his part of the fee (it is not taken off what he gets)");
        TenancyDeposits book = Books.disputed(5000, 10000);
        book.setEvidence(0, 0, 1);
        // Three quarters of the fee are his, 2500 are awarded.
        outcomeIs("enough for all", book, 1250, 2500, 1250, 3750, 0, 5000);
        TenancyDeposits poor = Books.disputed(1000, 10000);
        poor.setEvidence(0, 0, 1);
        outcomeIs("nothing is left", poor, 0, 0, 1000, 3750, 2750, 1000);
        poor.close(0);
        Check.due("fees as far as taken or owed", poor.count(10), 4750);
    }
}
