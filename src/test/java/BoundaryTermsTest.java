/** The boundaries that 'Terms' names under FLOATS, TENANCIES and ITEMS: one method for each sentence. */
public final class BoundaryTermsTest {
    private static final int UNKNOWN = TenancyDeposits.UNKNOWN;
    private static final int BAD_VALUE = TenancyDeposits.BAD_VALUE;
    private static final int FULL = TenancyDeposits.FULL;
    private static final int NONE = TenancyDeposits.NONE;

    private static final int RATE_OF_A_FIFTIETH = 0x3CA3D70A;

    public static void main(String[] args) {
        eachOperationIsRounded();
        cutIsWithoutTheFraction();
        floatsByTheirBits();
        dayIsZeroAtFirst();
        sixTenancies();
        rangeOfDeposits();
        dayOfTheBeginning();
        statesOfATenancy();
        rangeOfTheRate();
        rateAtFirst();
        interestFromLeftToRight();
        daysOfTheInterest();
        rateOfTheInterest();
        twentyFourItems();
        rangesOfItems();
        conditionAtTheEndIsToldThen();
        claimAndAnswerAtFirst();
        daysUpToTheEndOrNow();
        fairConditionIsRoundedDown();
        fairConditionIsAtLeastZero();
        ageThen();
        restIsNotBelowZero();
        damageIsNotBelowZero();
        dueIsCut();
        dueFromLeftToRight();
        Check.end("BoundaryTermsTest");
    }

    private static void eachOperationIsRounded() {
        Check.says("Each operation with floats is done in floats, rounded by itself, in the order that is told");
        // In whole numbers, and in doubles, this would be 11167.
        Check.due("ten years' interest of 55835", interestOf(55835, 3650), 11166);
        Check.due("ten years' interest of 70790", interestOf(70790, 3650), 14157);
        // ... and this 3040.
        Check.due("due of 57", Books.endedAfter(0, 10000, 30, 14).inspect(0, 43), 3039);
    }

    private static void cutIsWithoutTheFraction() {
        Check.says("'Cut' is the conversion of a float to a whole number without its fraction");
        // 1000 * 0.02 * 18 / 365 is 0.986, 1000 * 0.02 * 19 / 365 is 1.041.
        Check.due("interest of 18 days", interestOf(1000, 18), 0);
        Check.due("interest of 19 days", interestOf(1000, 19), 1);
        Check.due("interest of 36 days", interestOf(1000, 36), 1);
        Check.due("interest of 37 days", interestOf(1000, 37), 2);
        // 100 * 1.0f * 0.99f and 199 * 1.0f * 0.01f.
        Check.due("99 of 100", Books.endedAfter(0, 100, 30, 0).inspect(0, 1), 99);
        Check.due("1.99", Books.endedAfter(0, 199, 30, 0).inspect(0, 99), 1);
    }

    private static int interestOf(int deposit, int days) {
        TenancyDeposits book = new TenancyDeposits();
        book.begin(deposit);
        Books.pass(book, days);
        return book.tenancy(0, 4);
    }

    private static void floatsByTheirBits() {
        Check.says("A float is given by its bits, as told by Float.floatToRawIntBits");
        TenancyDeposits book = new TenancyDeposits();
        int[] bits = {0, 1, 0x007FFFFF, 0x00800000, 0x00800001, 0x3DCCCCCD, 0x3E4CCCCC, 0x3E4CCCCD};
        for (int b : bits) {
            Check.due("setRate(" + b + ")", book.setRate(b), 1);
            Check.due("bits of rate()", Float.floatToRawIntBits(book.rate()), b);
        }
    }

    private static void dayIsZeroAtFirst() {
        Check.says("The day is 0 at first");
        TenancyDeposits book = new TenancyDeposits();
        Check.due("count(0)", book.count(0), 0);
        Check.due("keep()", book.keep(), 0);
        book.begin(1000);
        Check.due("tenancy(0, 1)", book.tenancy(0, 1), 0);
    }

    private static void sixTenancies() {
        Check.says("There are at most 6 tenancies, numbered from 0");
        TenancyDeposits book = new TenancyDeposits();
        Check.due("tenancy(0, 0)", book.tenancy(0, 0), UNKNOWN);
        for (int n = 0; n < 6; n++) {
            Check.due("begin", book.begin(1000 + n), n);
            Check.due("tenancy(n, 0)", book.tenancy(n, 0), 1000 + n);
            Check.due("tenancy(n + 1, 0)", book.tenancy(n + 1, 0), UNKNOWN);
        }
        Check.due("a seventh", book.begin(1000), FULL);
        Check.due("tenancies", book.count(1), 6);
        Check.due("tenancy(6, 0)", book.tenancy(6, 0), UNKNOWN);
        Check.due("tenancy(-1, 0)", book.tenancy(-1, 0), UNKNOWN);
        Check.due("the first one is as it was", book.tenancy(0, 0), 1000);
        for (int n = 0; n < 6; n++) {
            book.end(n);
            book.put(n);
            book.close(n);
        }
        Check.due("closed ones count too", book.begin(1000), FULL);
    }

    private static void rangeOfDeposits() {
        Check.says("a deposit (1000 to 1000000)");
        TenancyDeposits book = new TenancyDeposits();
        Check.due("begin(999)", book.begin(999), BAD_VALUE);
        Check.due("begin(1000)", book.begin(1000), 0);
        Check.due("begin(1000000)", book.begin(1000000), 1);
        Check.due("begin(1000001)", book.begin(1000001), BAD_VALUE);
        Check.due("the least", book.tenancy(0, 0), 1000);
        Check.due("the most", book.tenancy(1, 0), 1000000);
    }

    private static void dayOfTheBeginning() {
        Check.says("the day at which it began");
        TenancyDeposits book = Books.onLastDay();
        book.begin(1000);
        Check.due("on the last day", book.tenancy(0, 1), 99999);
        Check.due("its days", book.tenancy(0, 3), 0);
        Check.due("its interest", book.tenancy(0, 4), 0);
    }

    private static void statesOfATenancy() {
        Check.says("a state: 0 running, 1 ended, 2 answered for, 3 closed");
        for (int state = 0; state <= 3; state++) {
            Check.due("tenancy(0, 2)", Books.inState(state).tenancy(0, 2), state);
        }
    }

    private static void rangeOfTheRate() {
        Check.says("a float, 0.0f to 0.2f");
        TenancyDeposits book = new TenancyDeposits();
        Check.due("0.0f", book.setRate(0), 1);
        Check.due("0.2f", book.setRate(0x3E4CCCCD), 1);
        Check.due("the next above 0.2f", book.setRate(0x3E4CCCCE), BAD_VALUE);
        Check.due("the next below 0.0f", book.setRate(0x80000001), BAD_VALUE);
        Check.dueFloat("rate()", book.rate(), 0.2f);
    }

    private static void rateAtFirst() {
        Check.says("at first 0.02f");
        TenancyDeposits book = new TenancyDeposits();
        Check.due("bits of rate()", Float.floatToRawIntBits(book.rate()), RATE_OF_A_FIFTIETH);
        Check.due("setRate(0.02f)", book.setRate(RATE_OF_A_FIFTIETH), NONE);
        Check.due("the next below", book.setRate(RATE_OF_A_FIFTIETH - 1), 1);
        Check.due("back again", book.setRate(RATE_OF_A_FIFTIETH), 1);
    }

    private static void interestFromLeftToRight() {
        Check.says("the interest of a tenancy is deposit * rate * days / 365.0f (from left to right), cut");
        // With the quotient days / 365.0f first these would be one cent less.
        Check.due("40880 in 100 days", interestOf(40880, 100), 224);
        Check.due("83751 in 99999 days", interestOf(83751, 99999), 458905);
        // ... and these one more.
        Check.due("85745 in 3650 days", interestOf(85745, 3650), 17148);
        Check.due("95715 in 3650 days", interestOf(95715, 3650), 19142);
        Check.due("none in no days", interestOf(1000000, 0), 0);
        Check.due("a year's of 1000", interestOf(1000, 365), 20);
        TenancyDeposits book = new TenancyDeposits();
        book.begin(1000000);
        book.setRate(1);
        Books.pass(book, 99999);
        Check.due("of the least rate above 0", book.tenancy(0, 4), 0);
        book.setRate(0x3E4CCCCD);
        Check.due("the most there can be", book.tenancy(0, 4), 54793972);
    }

    private static void daysOfTheInterest() {
        Check.says("with the days from its beginning to the day at which it was closed, or to now");
        TenancyDeposits book = new TenancyDeposits();
        book.pass(10);
        book.begin(365000);
        book.begin(365000);
        Check.due("on its first day", book.tenancy(0, 4), 0);
        book.pass(1);
        Check.due("on its second day", book.tenancy(0, 4), 20);
        book.end(0);
        book.pass(1);
        Check.due("it goes on after the end", book.tenancy(0, 4), 40);
        book.put(0);
        book.pass(1);
        Check.due("and as the claims are put", book.tenancy(0, 4), 60);
        book.close(0);
        Check.due("as it was closed", book.tenancy(0, 4), 60);
        book.pass(1);
        Check.due("no day more", book.tenancy(0, 4), 60);
        Check.due("the other goes on", book.tenancy(1, 4), 80);
        book.begin(365000);
        book.end(2);
        book.put(2);
        book.close(2);
        book.pass(1000);
        Check.due("closed on its first day", book.tenancy(2, 4), 0);
    }

    private static void rateOfTheInterest() {
        Check.says("the rate is that of now, or as it was closed");
        TenancyDeposits book = new TenancyDeposits();
        book.begin(365000);
        book.pass(100);
        book.setRate(0);
        Check.due("of now, for all its days", book.tenancy(0, 4), 0);
        book.setRate(0x3DCCCCCD);
        Check.due("of now, for all its days", book.tenancy(0, 4), 10000);
        book.end(0);
        book.setRate(RATE_OF_A_FIFTIETH);
        Check.due("of now after the end", book.tenancy(0, 4), 2000);
        book.put(0);
        Check.due("pot", book.outcome(0, 5), 367000);
        book.close(0);
        book.setRate(0x3DCCCCCD);
        Check.due("as it was closed", book.tenancy(0, 4), 2000);
        Check.due("pot as it was closed", book.outcome(0, 5), 367000);
    }

    private static void twentyFourItems() {
        Check.says("There are at most 24 items, numbered from 0 over all tenancies");
        TenancyDeposits book = new TenancyDeposits();
        book.begin(1000);
        book.begin(1000);
        Check.due("item(0, 0)", book.item(0, 0), UNKNOWN);
        for (int n = 0; n < 24; n++) {
            Check.due("addItem", book.addItem(n % 2, 100 + n, 30, 0, 0), n);
            Check.due("item(n, 1)", book.item(n, 1), 100 + n);
            Check.due("item(n + 1, 1)", book.item(n + 1, 1), UNKNOWN);
        }
        Check.due("a 25th", book.addItem(0, 100, 30, 0, 0), FULL);
        Check.due("a 25th of the other", book.addItem(1, 100, 30, 0, 0), FULL);
        Check.due("items", book.count(6), 24);
        Check.due("item(24, 1)", book.item(24, 1), UNKNOWN);
        Check.due("item(-1, 1)", book.item(-1, 1), UNKNOWN);
        Check.due("the first one is as it was", book.item(0, 1), 100);
    }

    private static void rangesOfItems() {
        Check.says("a value as new (100 to 500000)");
        Check.due("99", added(99, 30, 0, 0), BAD_VALUE);
        Check.due("100", added(100, 30, 0, 0), 0);
        Check.due("500000", added(500000, 30, 0, 0), 0);
        Check.due("500001", added(500001, 30, 0, 0), BAD_VALUE);
        Check.says("a life (30 to 9999 days)");
        Check.due("29", added(100, 29, 0, 0), BAD_VALUE);
        Check.due("30", added(100, 30, 0, 0), 0);
        Check.due("9999", added(100, 9999, 0, 0), 0);
        Check.due("10000", added(100, 10000, 0, 0), BAD_VALUE);
        Check.due("0 divides nothing", added(100, 0, 0, 0), BAD_VALUE);
        Check.says("an age in days (0 to 9999)");
        Check.due("-1", added(100, 30, -1, 0), BAD_VALUE);
        Check.due("0", added(100, 30, 0, 0), 0);
        Check.due("9999", added(100, 30, 9999, 0), 0);
        Check.due("10000", added(100, 30, 10000, 0), BAD_VALUE);
        Check.says("a condition (0 to 100) at the beginning of its tenancy");
        Check.due("-1", added(100, 30, 0, -1), BAD_VALUE);
        Check.due("0", added(100, 30, 0, 0), 0);
        Check.due("100", added(100, 30, 0, 100), 0);
        Check.due("101", added(100, 30, 0, 101), BAD_VALUE);
    }

    private static int added(int value, int life, int age, int condition) {
        TenancyDeposits book = new TenancyDeposits();
        book.begin(1000);
        int answer = book.addItem(0, value, life, age, condition);
        Check.due("items behind it", book.count(6), answer == 0 ? 1 : 0);
        if (answer == 0) {
            Check.due("its value", book.item(0, 1), value);
            Check.due("its age", book.item(0, 10), age);
            Check.due("its condition", book.item(0, 2), condition);
            book.pass(30);
            Check.due("fair by its life", book.item(0, 3), Math.max(0, condition - 3000 / life));
        }
        return answer;
    }

    private static void conditionAtTheEndIsToldThen() {
        Check.says("a condition at the end of it (told then)");
        TenancyDeposits book = Books.inState(0);
        Check.due("item(0, 4) while it runs", book.item(0, 4), NONE);
        book.end(0);
        Check.due("item(0, 4) then", book.item(0, 4), 50);
    }

    private static void claimAndAnswerAtFirst() {
        Check.says("a claim (0 at first), and an answer (0 none, 1 accepted, 2 disputed)");
        TenancyDeposits book = Books.inState(2);
        Check.due("no claim", book.item(1, 7), 0);
        Check.due("no answer", book.item(0, 8), 0);
        book.answer(0, true);
        Check.due("accepted", book.item(0, 8), 1);
        book.answer(0, false);
        Check.due("disputed", book.item(0, 8), 2);
        TenancyDeposits running = Books.inState(0);
        Check.due("no claim while it runs", running.item(0, 7), 0);
        Check.due("no answer while it runs", running.item(0, 8), 0);
    }

    private static void daysUpToTheEndOrNow() {
        Check.says("For the days of a tenancy up to its end, or up to now while it runs");
        TenancyDeposits book = new TenancyDeposits();
        book.pass(50);
        book.begin(1000);
        book.addItem(0, 1000, 100, 0, 100);
        Check.due("fair on the first day", book.item(0, 3), 100);
        book.pass(10);
        Check.due("fair of now", book.item(0, 3), 90);
        Check.due("end(0)", book.end(0), 10);
        Check.due("fair at the end", book.item(0, 3), 90);
        book.pass(1);
        Check.due("fair a day behind the end", book.item(0, 3), 90);
        Check.due("age a day behind the end", book.item(0, 10), 10);
        Check.dueFloat("rest a day behind the end", book.rest(0), 0.9f);
        Check.due("days a day behind the end", book.tenancy(0, 3), 10);
    }

    private static void fairConditionIsRoundedDown() {
        Check.says("its condition at the beginning less 100 * days / life (rounded down)");
        TenancyDeposits book = new TenancyDeposits();
        book.begin(1000);
        book.addItem(0, 1000, 250, 0, 100);
        book.addItem(0, 1000, 9999, 0, 100);
        book.addItem(0, 1000, 30, 0, 100);
        int[] days = {0, 1, 1, 1, 2, 94, 1};
        int[] ofThe250 = {100, 100, 100, 99, 98, 61, 60};
        int[] ofThe9999 = {100, 100, 100, 100, 100, 100, 99};
        int[] ofThe30 = {100, 97, 94, 90, 84, 0, 0};
        for (int n = 0; n < days.length; n++) {
            Books.pass(book, days[n]);
            Check.due("life 250, day " + book.count(0), book.item(0, 3), ofThe250[n]);
            Check.due("life 9999, day " + book.count(0), book.item(1, 3), ofThe9999[n]);
            Check.due("life 30, day " + book.count(0), book.item(2, 3), ofThe30[n]);
        }
    }

    private static void fairConditionIsAtLeastZero() {
        Check.says("but at least 0");
        TenancyDeposits book = new TenancyDeposits();
        book.begin(1000);
        book.addItem(0, 1000, 100, 0, 40);
        book.addItem(0, 1000, 100, 0, 0);
        Check.due("0 from the beginning", book.item(1, 3), 0);
        book.pass(39);
        Check.due("1 the day before", book.item(0, 3), 1);
        Check.due("0 stays", book.item(1, 3), 0);
        book.pass(1);
        Check.due("just 0", book.item(0, 3), 0);
        book.pass(1);
        Check.due("0 the day behind", book.item(0, 3), 0);
        Books.pass(book, 99999 - 41);
        Check.due("0 on the last day", book.item(0, 3), 0);
        TenancyDeposits longest = new TenancyDeposits();
        longest.begin(1000);
        longest.addItem(0, 1000, 9999, 0, 100);
        Books.pass(longest, 9998);
        Check.due("1 a day before the longest life is over", longest.item(0, 3), 1);
        longest.pass(1);
        Check.due("0 as it is over", longest.item(0, 3), 0);
    }

    private static void ageThen() {
        Check.says("Its age then is its age at the beginning plus the days");
        TenancyDeposits book = new TenancyDeposits();
        book.begin(1000);
        book.addItem(0, 1000, 30, 9999, 100);
        book.addItem(0, 1000, 30, 0, 100);
        Check.due("the oldest", book.item(0, 10), 9999);
        Check.due("the newest", book.item(1, 10), 0);
        Books.pass(book, 99999);
        Check.due("the oldest on the last day", book.item(0, 10), 109998);
        Check.due("the newest on the last day", book.item(1, 10), 99999);
    }

    private static void restIsNotBelowZero() {
        Check.says("Its rest is 1.0f - age then / life, or 0.0f if that is below 0.0f");
        TenancyDeposits book = new TenancyDeposits();
        book.begin(1000);
        book.addItem(0, 1000, 30, 28, 100);
        book.addItem(0, 1000, 30, 9999, 100);
        book.addItem(0, 1000, 9999, 0, 100);
        Check.due("bits of 1.0f - 28 / 30", Float.floatToRawIntBits(book.rest(0)), 0x3D888888);
        Check.dueFloat("far below", book.rest(1), 0.0f);
        Check.dueFloat("as new", book.rest(2), 1.0f);
        book.pass(1);
        Check.due("bits of 1.0f - 29 / 30", Float.floatToRawIntBits(book.rest(0)), 0x3D088890);
        Check.due("bits of 1.0f - 1 / 9999", Float.floatToRawIntBits(book.rest(2)), 0x3F7FF972);
        book.pass(1);
        Check.dueFloat("just 0.0f", book.rest(0), 0.0f);
        book.pass(1);
        Check.dueFloat("the first one below", book.rest(0), 0.0f);
        Books.pass(book, 99996);
        Check.dueFloat("on the last day", book.rest(1), 0.0f);
        Check.dueFloat("on the last day", book.rest(2), 0.0f);
    }

    private static void damageIsNotBelowZero() {
        Check.says("the fair condition less the condition at the end, or 0 if that is below 0");
        TenancyDeposits book = Books.inState(1);
        int[] conditions = {0, 49, 50, 51, 100};
        int[] damages = {50, 1, 0, 0, 0};
        int[] dues = {2500, 50, 0, 0, 0};
        for (int n = 0; n < conditions.length; n++) {
            book.inspect(0, conditions[n]);
            Check.due("damage at " + conditions[n], book.item(0, 5), damages[n]);
            Check.due("due at " + conditions[n], book.item(0, 6), dues[n]);
        }
        TenancyDeposits worn = Books.endedAfter(30, 1000, 30, 0);
        Check.due("fair is 0 already", worn.inspect(0, 1), 0);
        Check.due("no damage", worn.item(0, 5), 0);
        Check.due("the most damage", Books.endedAfter(0, 1000, 30, 0).inspect(0, 0), 1000);
    }

    private static void dueIsCut() {
        Check.says("Its due is value * rest * (damage / 100.0f), cut");
        Check.due("all of the least value", Books.endedAfter(0, 100, 30, 0).inspect(0, 0), 100);
        Check.due("all of the greatest value", Books.endedAfter(0, 500000, 30, 0).inspect(0, 0), 500000);
        Check.due("a cent of the least value", Books.endedAfter(0, 100, 30, 0).inspect(0, 99), 1);
        Check.due("less than a cent", Books.endedAfter(0, 100, 30, 15).inspect(0, 99), 0);
        Check.due("no rest", Books.endedAfter(0, 500000, 30, 30).inspect(0, 0), 0);
        Check.due("less than no rest", Books.endedAfter(0, 500000, 30, 9999).inspect(0, 0), 0);
        Check.due("the least rest", Books.endedAfter(0, 500000, 9999, 9998).inspect(0, 0), 50);
    }

    private static void dueFromLeftToRight() {
        Check.says("from left to right, where the quotient in parentheses is taken ahead of the second product");
        // The second product ahead of the quotient would make this 263999.
        Check.due("99 of 500000", Books.endedAfter(0, 500000, 30, 14).inspect(0, 1), 264000);
        // rest * (damage / 100.0f) ahead of the first product would make these 908 and 124699.
        Check.due("10 of 9999", Books.endedAfter(0, 9999, 77, 7).inspect(0, 90), 909);
        Check.due("29 of 500000", Books.endedAfter(0, 500000, 100, 14).inspect(0, 71), 124700);
    }
}
