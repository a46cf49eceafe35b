/** Promises 5 to 8, 22 to 24 and 28: tenancies, their items, the end, and what is told of them. */
public final class TenanciesTest {
    public static void main(String[] args) {
        begin();
        addItem();
        addItemOrderOfErrors();
        roomForItems();
        end();
        inspect();
        inspectOrderOfErrors();
        tenancyTells();
        itemTells();
        fairConditionIsRoundedDown();
        ageAndConditionStandStillAfterTheEnd();
        rest();
        dueIsCutFromLeftToRight();
        mostIn();
        Check.end("TenanciesTest");
    }

    private static void begin() {
        TenancyDeposits book = new TenancyDeposits();
        Check.due("begin(999)", book.begin(999), TenancyDeposits.BAD_VALUE);
        Check.due("begin(1000001)", book.begin(1000001), TenancyDeposits.BAD_VALUE);
        Check.due("begin(-1000)", book.begin(-1000), TenancyDeposits.BAD_VALUE);
        Check.due("begin(1000)", book.begin(1000), 0);
        book.pass(7);
        Check.due("begin(1000000)", book.begin(1000000), 1);
        Check.due("its deposit", book.tenancy(1, 0), 1000000);
        Check.due("its day", book.tenancy(1, 1), 7);
        Check.due("its state", book.tenancy(1, 2), 0);
        for (int n = 2; n < 6; n++) {
            Check.due("begin(2000)", book.begin(2000), n);
        }
        Check.due("a seventh", book.begin(2000), TenancyDeposits.FULL);
        Check.due("a wrong seventh", book.begin(999), TenancyDeposits.BAD_VALUE);
        Check.due("count(1)", book.count(1), 6);
        book.undo();
        Check.due("count(1) after undo", book.count(1), 5);
        Check.due("tenancy(5, 0)", book.tenancy(5, 0), TenancyDeposits.UNKNOWN);
        Check.due("begin again", book.begin(3000), 5);
        Check.due("its deposit", book.tenancy(5, 0), 3000);
    }

    private static void addItem() {
        TenancyDeposits book = new TenancyDeposits();
        book.begin(1000);
        Check.due("least", book.addItem(0, 100, 30, 0, 0), 0);
        Check.due("most", book.addItem(0, 500000, 9999, 9999, 100), 1);
        int[][] wrong = {{99, 30, 0, 0}, {500001, 30, 0, 0}, {100, 29, 0, 0}, {100, 10000, 0, 0},
            {100, 30, -1, 0}, {100, 30, 10000, 0}, {100, 30, 0, -1}, {100, 30, 0, 101}};
        for (int[] w : wrong) {
            Check.due("addItem(0, " + w[0] + ", " + w[1] + ", " + w[2] + ", " + w[3] + ")",
                book.addItem(0, w[0], w[1], w[2], w[3]), TenancyDeposits.BAD_VALUE);
        }
        Check.due("items", book.count(6), 2);
        Check.due("states", book.count(12), 3);
        book.begin(1000);
        Check.due("an item of another tenancy", book.addItem(1, 200, 40, 5, 60), 2);
        Check.due("its tenancy", book.item(2, 0), 1);
        Check.due("an item of the first one again", book.addItem(0, 300, 50, 6, 70), 3);
        Check.due("items of 0", book.tenancy(0, 5), 3);
        Check.due("items of 1", book.tenancy(1, 5), 1);
    }

    private static void addItemOrderOfErrors() {
        TenancyDeposits book = new TenancyDeposits();
        Check.due("no tenancy", book.addItem(0, 99, 30, 0, 0), TenancyDeposits.UNKNOWN);
        Check.due("no tenancy", book.addItem(-1, 100, 30, 0, 0), TenancyDeposits.UNKNOWN);
        book.begin(1000);
        Check.due("no second tenancy", book.addItem(1, 100, 30, 0, 0), TenancyDeposits.UNKNOWN);
        for (int n = 0; n < 24; n++) {
            book.addItem(0, 100, 30, 0, 50);
        }
        Check.due("full", book.addItem(0, 100, 30, 0, 0), TenancyDeposits.FULL);
        Check.due("wrong and full", book.addItem(0, 99, 30, 0, 0), TenancyDeposits.BAD_VALUE);
        book.pass(1);
        Check.due("began earlier, and full", book.addItem(0, 100, 30, 0, 0), TenancyDeposits.NOT_POSSIBLE);
        Check.due("wrong, and began earlier", book.addItem(0, 100, 29, 0, 0), TenancyDeposits.BAD_VALUE);
        book.begin(1000);
        book.end(1);
        Check.due("ended today", book.addItem(1, 100, 30, 0, 0), TenancyDeposits.NOT_POSSIBLE);
    }

    private static void roomForItems() {
        TenancyDeposits book = new TenancyDeposits();
        for (int n = 0; n < 24; n++) {
            book.begin(1000 + n);
            Check.due("item " + n, book.addItem(n % 6, 100 + n, 30 + n, n, n), n);
        }
        Check.due("one more", book.addItem(5, 100, 30, 0, 0), TenancyDeposits.FULL);
        for (int n = 0; n < 24; n++) {
            Check.due("tenancy of item " + n, book.item(n, 0), n % 6);
            Check.due("value of item " + n, book.item(n, 1), 100 + n);
            Check.due("condition of item " + n, book.item(n, 2), n);
            Check.due("age of item " + n, book.item(n, 10), n);
        }
    }

    private static void end() {
        TenancyDeposits book = new TenancyDeposits();
        Check.due("end(0)", book.end(0), TenancyDeposits.UNKNOWN);
        book.pass(10);
        book.begin(5000);
        book.addItem(0, 1000, 200, 0, 80);
        book.begin(6000);
        book.addItem(1, 1000, 200, 0, 80);
        book.pass(30);
        Check.due("end(-1)", book.end(-1), TenancyDeposits.UNKNOWN);
        Check.due("end(2)", book.end(2), TenancyDeposits.UNKNOWN);
        Check.due("end(0)", book.end(0), 30);
        Check.due("its state", book.tenancy(0, 2), 1);
        Check.due("the other's state", book.tenancy(1, 2), 0);
        Check.due("the fair condition", book.item(0, 4), 65);
        Check.due("the other's condition at the end", book.item(1, 4), TenancyDeposits.NONE);
        int states = book.count(12);
        Check.due("end(0) again", book.end(0), TenancyDeposits.NOT_POSSIBLE);
        Check.due("states", book.count(12), states);
        book.pass(10);
        Check.due("end(1)", book.end(1), 40);
        Check.due("its fair condition", book.item(1, 4), 60);
        Check.due("the first one's still", book.item(0, 4), 65);
    }

    private static void inspect() {
        TenancyDeposits book = new TenancyDeposits();
        book.begin(5000);
        book.addItem(0, 10000, 400, 100, 80);
        book.pass(100);
        book.end(0);
        // After 100 days the fair condition is 80 - 25, the rest 1 - 200 / 400.
        Check.due("the fair one is so already", book.inspect(0, 55), TenancyDeposits.NONE);
        Check.due("inspect(0, 35)", book.inspect(0, 35), 1000);
        Check.due("again", book.inspect(0, 35), TenancyDeposits.NONE);
        Check.due("damage", book.item(0, 5), 20);
        Check.due("due", book.item(0, 6), 1000);
        Check.due("inspect(0, 0)", book.inspect(0, 0), 2750);
        Check.due("better than fair", book.inspect(0, 100), 0);
        Check.due("condition", book.item(0, 4), 100);
        Check.due("no damage", book.item(0, 5), 0);
        Check.due("no due", book.item(0, 6), 0);
        Check.due("undo", book.undo(), 3);
        Check.due("condition then", book.item(0, 4), 0);
        Check.due("due then", book.item(0, 6), 2750);
        Check.due("sum of dues", book.tenancy(0, 8), 2750);
    }

    private static void inspectOrderOfErrors() {
        TenancyDeposits book = new TenancyDeposits();
        Check.due("no item", book.inspect(0, 101), TenancyDeposits.UNKNOWN);
        book.begin(5000);
        book.addItem(0, 10000, 400, 100, 80);
        Check.due("no such item", book.inspect(1, 50), TenancyDeposits.UNKNOWN);
        Check.due("no such item", book.inspect(-1, 50), TenancyDeposits.UNKNOWN);
        Check.due("running, wrong", book.inspect(0, 101), TenancyDeposits.BAD_VALUE);
        Check.due("running, wrong", book.inspect(0, -1), TenancyDeposits.BAD_VALUE);
        Check.due("running", book.inspect(0, 80), TenancyDeposits.NOT_POSSIBLE);
        book.end(0);
        book.put(0);
        Check.due("put, so already", book.inspect(0, 80), TenancyDeposits.NOT_POSSIBLE);
        book.close(0);
        Check.due("closed", book.inspect(0, 10), TenancyDeposits.NOT_POSSIBLE);
    }

    private static void tenancyTells() {
        TenancyDeposits book = new TenancyDeposits();
        book.pass(5);
        book.begin(100000);
        book.addItem(0, 10000, 1000, 0, 100);
        book.addItem(0, 20000, 1000, 0, 100);
        book.begin(100000);
        book.addItem(1, 30000, 1000, 0, 100);
        book.pass(500);
        tells(book, 0, new int[] {100000, 5, 0, 500, 2739, 2, 0, 0, 0, 0});
        book.end(0);
        book.end(1);
        book.pass(230);
        book.inspect(0, 10);
        book.inspect(1, 0);
        book.inspect(2, 0);
        book.claim(0, 5000);
        book.claim(1, 7000);
        book.claim(2, 9000);
        book.claimRent(0, 1234);
        // 10000 * 0.5 * 0.4 and 20000 * 0.5 * 0.5 are due; the interest goes on to the closing.
        tells(book, 0, new int[] {100000, 5, 1, 500, 4000, 2, 1234, 12000, 7000, 0});
        book.put(0);
        book.put(1);
        book.answer(0, false);
        book.answer(1, false);
        book.answer(1, true);
        book.answer(2, false);
        tells(book, 0, new int[] {100000, 5, 2, 500, 4000, 2, 1234, 12000, 7000, 1});
        book.close(0);
        book.pass(365);
        book.setRate(0);
        tells(book, 0, new int[] {100000, 5, 3, 500, 4000, 2, 1234, 12000, 7000, 1});
        tells(book, 1, new int[] {100000, 5, 2, 500, 0, 1, 0, 9000, 7500, 1});
        Check.due("tenancy(0, -1)", book.tenancy(0, -1), TenancyDeposits.BAD_VALUE);
        Check.due("tenancy(0, 10)", book.tenancy(0, 10), TenancyDeposits.BAD_VALUE);
        Check.due("tenancy(2, 10)", book.tenancy(2, 10), TenancyDeposits.UNKNOWN);
        Check.due("tenancy(-1, 0)", book.tenancy(-1, 0), TenancyDeposits.UNKNOWN);
    }

    private static void tells(TenancyDeposits book, int tenancy, int[] facts) {
        for (int what = 0; what < facts.length; what++) {
            Check.due("tenancy(" + tenancy + ", " + what + ")", book.tenancy(tenancy, what), facts[what]);
        }
    }

    private static void itemTells() {
        int none = TenancyDeposits.NONE;
        TenancyDeposits book = new TenancyDeposits();
        book.begin(100000);
        book.begin(100000);
        book.addItem(1, 8000, 400, 50, 90);
        itemIs(book, new int[] {1, 8000, 90, 90, none, none, none, 0, 0, 0, 50});
        book.pass(50);
        itemIs(book, new int[] {1, 8000, 90, 78, none, none, none, 0, 0, 0, 100});
        book.pass(100);
        itemIs(book, new int[] {1, 8000, 90, 53, none, none, none, 0, 0, 0, 200});
        book.end(1);
        itemIs(book, new int[] {1, 8000, 90, 53, 53, 0, 0, 0, 0, 0, 200});
        book.inspect(0, 3);
        itemIs(book, new int[] {1, 8000, 90, 53, 3, 50, 2000, 0, 0, 0, 200});
        book.claim(0, 6000);
        itemIs(book, new int[] {1, 8000, 90, 53, 3, 50, 2000, 6000, 0, 6000, 200});
        book.put(1);
        book.answer(0, false);
        itemIs(book, new int[] {1, 8000, 90, 53, 3, 50, 2000, 6000, 2, 4000, 200});
        book.answer(0, true);
        itemIs(book, new int[] {1, 8000, 90, 53, 3, 50, 2000, 6000, 1, 6000, 200});
        book.close(1);
        book.pass(100);
        itemIs(book, new int[] {1, 8000, 90, 53, 3, 50, 2000, 6000, 1, 6000, 200});
        Check.due("item(0, -1)", book.item(0, -1), TenancyDeposits.BAD_VALUE);
        Check.due("item(0, 11)", book.item(0, 11), TenancyDeposits.BAD_VALUE);
        Check.due("item(1, 11)", book.item(1, 11), TenancyDeposits.UNKNOWN);
        Check.due("item(-1, 0)", book.item(-1, 0), TenancyDeposits.UNKNOWN);
        Check.due("item(24, 0)", book.item(24, 0), TenancyDeposits.UNKNOWN);
    }

    private static void itemIs(TenancyDeposits book, int[] facts) {
        for (int what = 0; what < facts.length; what++) {
            Check.due("item(0, " + what + ")", book.item(0, what), facts[what]);
        }
    }

    private static void fairConditionIsRoundedDown() {
        TenancyDeposits book = new TenancyDeposits();
        book.begin(1000);
        book.addItem(0, 1000, 300, 0, 90);
        book.addItem(0, 1000, 30, 0, 5);
        book.pass(2);
        Check.due("200 / 300 is 0", book.item(0, 3), 90);
        Check.due("200 / 30 is 6, and it is not below 0", book.item(1, 3), 0);
        book.pass(1);
        Check.due("300 / 300 is 1", book.item(0, 3), 89);
        book.pass(2);
        Check.due("500 / 300 is 1", book.item(0, 3), 89);
        book.pass(145);
        Check.due("half of the life", book.item(0, 3), 40);
        book.pass(119);
        Check.due("one day before 0", book.item(0, 3), 1);
        book.pass(1000);
        Check.due("at least 0", book.item(0, 3), 0);
    }

    private static void ageAndConditionStandStillAfterTheEnd() {
        TenancyDeposits book = new TenancyDeposits();
        book.begin(1000);
        book.addItem(0, 1000, 500, 9, 70);
        book.pass(100);
        book.end(0);
        book.pass(300);
        Check.due("days", book.tenancy(0, 3), 100);
        Check.due("age", book.item(0, 10), 109);
        Check.due("fair", book.item(0, 3), 50);
        Check.dueFloat("rest(0)", book.rest(0), 1.0f - 109f / 500f);
        Check.due("due by the days of the tenancy", book.inspect(0, 0), 391);
    }

    private static void rest() {
        TenancyDeposits book = new TenancyDeposits();
        Check.dueFloat("rest(0)", book.rest(0), Float.NaN);
        book.begin(1000);
        book.addItem(0, 1000, 300, 0, 90);
        book.addItem(0, 1000, 30, 29, 90);
        book.addItem(0, 1000, 30, 9999, 90);
        Check.dueFloat("rest(-1)", book.rest(-1), Float.NaN);
        Check.dueFloat("rest(3)", book.rest(3), Float.NaN);
        Check.dueFloat("rest(0)", book.rest(0), 1.0f);
        Check.dueFloat("rest(1)", book.rest(1), 1.0f - 29f / 30f);
        Check.dueFloat("rest(2)", book.rest(2), 0.0f);
        book.pass(1);
        Check.dueFloat("rest(0) then", book.rest(0), 1.0f - 1f / 300f);
        Check.dueFloat("rest(1) then", book.rest(1), 0.0f);
        book.pass(1);
        Check.dueFloat("rest(1) is not below 0", book.rest(1), 0.0f);
    }

    /** Values at which another order of the operations, or operations in doubles, cuts to another number. */
    private static void dueIsCutFromLeftToRight() {
        int others = 0;
        for (int value = 100; value < 4100; value += 40) {
            TenancyDeposits book = new TenancyDeposits();
            book.begin(1000);
            book.addItem(0, value, 77, 14, 100);
            book.end(0);
            float rest = 1.0f - 14f / 77f;
            for (int damage = 10; damage <= 100; damage += 10) {
                int want = (int) ((float) value * rest * (damage / 100.0f));
                Check.due("due of " + value + " at " + damage, book.inspect(0, 100 - damage), want);
                boolean sameElsewise = (int) ((float) value * rest * damage / 100.0f) == want
                    && (int) (value * (1.0 - 14.0 / 77.0) * (damage / 100.0)) == want;
                others += sameElsewise ? 0 : 1;
            }
        }
        Check.dueTrue("some dues tell the orders apart", others > 0);
    }

    private static void mostIn() {
        TenancyDeposits book = new TenancyDeposits();
        Check.due("no item", book.mostIn(0, -1), TenancyDeposits.UNKNOWN);
        book.begin(1000);
        book.addItem(0, 10000, 400, 0, 80);
        Check.due("mostIn(-1, 0)", book.mostIn(-1, 0), TenancyDeposits.UNKNOWN);
        Check.due("mostIn(1, 0)", book.mostIn(1, 0), TenancyDeposits.UNKNOWN);
        Check.due("mostIn(0, -1)", book.mostIn(0, -1), TenancyDeposits.BAD_VALUE);
        Check.due("mostIn(0, 10000)", book.mostIn(0, 10000), TenancyDeposits.BAD_VALUE);
        Check.due("mostIn(0, 0)", book.mostIn(0, 0), 8000);
        Check.due("mostIn(0, 100)", book.mostIn(0, 100), 4125);
        Check.due("mostIn(0, 200)", book.mostIn(0, 200), 1500);
        Check.due("mostIn(0, 9999)", book.mostIn(0, 9999), 0);
        book.pass(100);
        Check.due("mostIn(0, 0) then", book.mostIn(0, 0), 4125);
        Check.due("mostIn(0, 100) then", book.mostIn(0, 100), 1500);
        Check.due("it is no act", book.count(12), 3);
        Check.due("it changes nothing", book.item(0, 10), 100);
        book.end(0);
        Check.due("ended", book.mostIn(0, 0), TenancyDeposits.NOT_POSSIBLE);
        Check.due("ended, wrong", book.mostIn(0, -1), TenancyDeposits.BAD_VALUE);
    }
}
